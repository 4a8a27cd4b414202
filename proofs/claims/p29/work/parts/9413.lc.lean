set_option maxHeartbeats 4000000 in
set_option maxRecDepth 100000 in
theorem lc_24 {γ : kΓ} {l : Launch} {p : Program} {e : Env} {s : State} {m : MethodId} {below : List Frame} {meth : Method} {c : Code} {A : Nat → Prop} {Q : State → Prop} {b L : Nat} {xs : Nat → Int32} {x z ou : Nat} {ax am : List Nat} {i : Int32} {cs ss : Nat} (hC : kC γ p s m [Value.ref b].toArray c code 7 RL A) (hX : va_X b L xs s s.heap) (hbl : b < s.heap.size) (hbA : ¬ A b) (hl9 : l.stackTraces = false) (hax : ax[0]? = some x) (ham : am[0]? = some z) (hi : ∀ j : Int32, 0 ≤ j → j ≤ 6 → vp_in (i + j) L) (hcs : cs + 1 ≤ 601024) (hss : ss + 6 ≤ 7293034)
    (hk : ∀ (H : Heap) (locs : List Loc) (ls : Array Slot), lIv γ A ax am ou s H locs → lv_has ls 7 [(4, .int i), (0, .ref b), (1, .ref x), (2, .ref z), (3, .ref ou)] → W p l e room_1 s m [Value.ref b].toArray below meth c H locs (cs + 1) (ss + 6) Q (F0 m 1286 ls []))
    {H : Heap} {locs : List Loc} {ls : Array Slot} (hI : lIv γ A ax am ou s H locs) (hl : lv_has ls 7 [(4, .int i), (0, .ref b), (1, .ref x), (2, .ref z), (3, .ref ou)]) : W p l e room_1 s m [Value.ref b].toArray below meth c H locs cs ss Q (F0 m 964 ls []) := by
  have hx := hC.1
  have hb := hC.2.1
  obtain ⟨wx, wm, fo, hw, hHx, hHm, hMx⟩ := hI
  refine lv_aload_n hx hb dL_law_964 rfl (lv_at hl 2 rfl) ?_
  refine lv_aload_n hx hb dL_law_965 rfl (lv_at hl 1 rfl) ?_
  refine lv_iload hx hb dL_law_966 (lv_at hl 0 rfl) ?_
  refine lv_iconst (v := 1) hx hb dL_law_968 (by decide) ?_
  refine lv_iadd hx hb dL_law_969 ?_
  refine va_sld hx hb hX hbl hbA hw.2.2 (hi 1 (by decide) (by decide)) dL_law_970 ?_
  refine lv_topi (fun v1 ev1 => ?_)
  clear ev1
  refine lv_aload_n hx hb dL_law_971 rfl (lv_at hl 1 rfl) ?_
  refine lv_iload hx hb dL_law_972 (lv_at hl 0 rfl) ?_
  refine lv_iconst (v := 2) hx hb dL_law_974 (by decide) ?_
  refine lv_iadd hx hb dL_law_975 ?_
  refine va_sld hx hb hX hbl hbA hw.2.2 (hi 2 (by decide) (by decide)) dL_law_976 ?_
  refine lv_topi (fun v2 ev2 => ?_)
  clear ev2
  obtain ⟨fsx, hfx⟩ := c_recv hHx hax
  obtain ⟨y9, hy9, hs9⟩ := cs_113 γ l
  cases hy9
  refine l_V 2 gw_923 gw_924 gw_925 gw_1 gw_926 hd_X11_chance hC hw (hs9 ax wx [.ref x, .int v1, .int v2] ⟨hHx, trivial, ⟨v_ref rfl hax, v_int _, v_int _, trivial⟩, fun f hf => (by cases hf), fun f hf => (by cases hf)⟩) ⟨by decide, by decide⟩ ⟨by show cs + 0 ≤ 601024; omega, by show ss + 0 ≤ 7293034; omega⟩ hl.1 rfl hfx rfl rfl (Nat.le_of_ble_eq_true rfl) dL_law_977 (fun r w1 H locs hq hw => ?_)
  obtain ⟨v9, rfl⟩ := l_ri (c := cn_113) rfl hq
  have hHx := hq.1
  clear hq hs9 hfx
  refine W.eq (g2 := F0 m 980 ls [.int v9]) rfl ?_
  refine W.widen (k := cs) (n := ss) (Nat.le_refl _) (Nat.le_refl _) ?_
  refine lv_pop hx hb dL_law_980 rfl ?_
  clear v9
  have hw := hw.perm b_sw
  refine lv_aload_n hx hb dL_law_981 rfl (lv_at hl 3 rfl) ?_
  refine lv_aload_n hx hb dL_law_982 rfl (lv_at hl 1 rfl) ?_
  refine lv_iload hx hb dL_law_983 (lv_at hl 0 rfl) ?_
  refine lv_iconst (v := 1) hx hb dL_law_985 (by decide) ?_
  refine lv_iadd hx hb dL_law_986 ?_
  refine va_sld hx hb hX hbl hbA hw.2.2 (hi 1 (by decide) (by decide)) dL_law_987 ?_
  refine lv_topi (fun v3 ev3 => ?_)
  clear ev3
  refine lv_aload_n hx hb dL_law_988 rfl (lv_at hl 1 rfl) ?_
  refine lv_iload hx hb dL_law_989 (lv_at hl 0 rfl) ?_
  refine lv_iconst (v := 2) hx hb dL_law_991 (by decide) ?_
  refine lv_iadd hx hb dL_law_992 ?_
  refine va_sld hx hb hX hbl hbA hw.2.2 (hi 2 (by decide) (by decide)) dL_law_993 ?_
  refine lv_topi (fun v4 ev4 => ?_)
  clear ev4
  obtain ⟨fsz, hfz⟩ := m_recv hHm ham
  obtain ⟨y8, hy8, hs8⟩ := m_up rfl (ms_223 γ l)
  cases hy8
  refine l_V 2 gw_1696 gw_1697 gw_1698 gw_15 gw_1699 hd_X12_chance hC hw (hs8 am wm [.ref z, .int v3, .int v4] ⟨hHm, hMx, ⟨v_ref rfl ham, v_int _, v_int _, trivial⟩, fun f hf => (by cases hf), fun f hf => (by cases hf)⟩) ⟨by decide, by decide⟩ ⟨by show cs + 0 ≤ 601024; omega, by show ss + 0 ≤ 7293034; omega⟩ hl.1 rfl hfz rfl rfl (Nat.le_of_ble_eq_true rfl) dL_law_994 (fun r w2 H locs hq hw => ?_)
  obtain ⟨v8, rfl⟩ := l_ri (c := mn_223) rfl hq
  have hHm := hq.1
  have hMx := hq.2.1
  clear hq hs8 hfz
  refine W.eq (g2 := F0 m 997 ls [.int v8]) rfl ?_
  have hw := hw.perm b_sw
  refine lv_pop hx hb dL_law_997 rfl ?_
  refine lv_goto (tgt := 1286) hx hb dL_law_998 (by decide) ?_
  exact W.widen (by show cs + 0 ≤ cs + 1; omega) (by show ss + 0 ≤ ss + 6; omega) (hk _ _ _ ⟨w1, w2, fo, hw, hHx, hHm, hMx⟩ hl)

set_option maxHeartbeats 4000000 in
set_option maxRecDepth 100000 in
theorem lc_25 {γ : kΓ} {l : Launch} {p : Program} {e : Env} {s : State} {m : MethodId} {below : List Frame} {meth : Method} {c : Code} {A : Nat → Prop} {Q : State → Prop} {b L : Nat} {xs : Nat → Int32} {x z ou : Nat} {ax am : List Nat} {i : Int32} {cs ss : Nat} (hC : kC γ p s m [Value.ref b].toArray c code 7 RL A) (hX : va_X b L xs s s.heap) (hbl : b < s.heap.size) (hbA : ¬ A b) (hl9 : l.stackTraces = false) (hax : ax[0]? = some x) (ham : am[0]? = some z) (hi : ∀ j : Int32, 0 ≤ j → j ≤ 6 → vp_in (i + j) L) (hcs : cs + 1 ≤ 601024) (hss : ss + 6 ≤ 7293034)
    (hk : ∀ (H : Heap) (locs : List Loc) (ls : Array Slot), lIv γ A ax am ou s H locs → lv_has ls 7 [(4, .int i), (0, .ref b), (1, .ref x), (2, .ref z), (3, .ref ou)] → W p l e room_1 s m [Value.ref b].toArray below meth c H locs (cs + 1) (ss + 6) Q (F0 m 1286 ls []))
    {H : Heap} {locs : List Loc} {ls : Array Slot} (hI : lIv γ A ax am ou s H locs) (hl : lv_has ls 7 [(4, .int i), (0, .ref b), (1, .ref x), (2, .ref z), (3, .ref ou)]) : W p l e room_1 s m [Value.ref b].toArray below meth c H locs cs ss Q (F0 m 1001 ls []) := by
  have hx := hC.1
  have hb := hC.2.1
  obtain ⟨wx, wm, fo, hw, hHx, hHm, hMx⟩ := hI
  refine lv_aload_n hx hb dL_law_1001 rfl (lv_at hl 2 rfl) ?_
  obtain ⟨fsx, hfx⟩ := c_recv hHx hax
  obtain ⟨y9, hy9, hs9⟩ := cs_116 γ l
  cases hy9
  refine l_V 0 gw_934 gw_935 gw_936 gw_1 gw_937 hd_X11_dead hC hw (hs9 ax wx [.ref x] ⟨hHx, trivial, ⟨v_ref rfl hax, trivial⟩, fun f hf => (by cases hf), fun f hf => (by cases hf)⟩) ⟨by decide, by decide⟩ ⟨by show cs + 0 ≤ 601024; omega, by show ss + 0 ≤ 7293034; omega⟩ hl.1 rfl hfx rfl rfl (Nat.le_of_ble_eq_true rfl) dL_law_1002 (fun r w1 H locs hq hw => ?_)
  obtain ⟨v9, rfl⟩ := l_ri (c := cn_116) rfl hq
  have hHx := hq.1
  clear hq hs9 hfx
  refine W.eq (g2 := F0 m 1005 ls [.int v9]) rfl ?_
  refine W.widen (k := cs) (n := ss) (Nat.le_refl _) (Nat.le_refl _) ?_
  refine lv_pop hx hb dL_law_1005 rfl ?_
  clear v9
  have hw := hw.perm b_sw
  refine lv_aload_n hx hb dL_law_1006 rfl (lv_at hl 3 rfl) ?_
  obtain ⟨fsz, hfz⟩ := m_recv hHm ham
  obtain ⟨y8, hy8, hs8⟩ := m_up rfl (ms_274 γ l)
  cases hy8
  refine l_V 0 gw_1772 gw_1773 gw_1774 gw_15 gw_1775 hd_X12_dead hC hw (hs8 am wm [.ref z] ⟨hHm, hMx, ⟨v_ref rfl ham, trivial⟩, fun f hf => (by cases hf), fun f hf => (by cases hf)⟩) ⟨by decide, by decide⟩ ⟨by show cs + 0 ≤ 601024; omega, by show ss + 0 ≤ 7293034; omega⟩ hl.1 rfl hfz rfl rfl (Nat.le_of_ble_eq_true rfl) dL_law_1007 (fun r w2 H locs hq hw => ?_)
  obtain ⟨v8, rfl⟩ := l_ri (c := mn_274) rfl hq
  have hHm := hq.1
  have hMx := hq.2.1
  clear hq hs8 hfz
  refine W.eq (g2 := F0 m 1010 ls [.int v8]) rfl ?_
  have hw := hw.perm b_sw
  refine lv_pop hx hb dL_law_1010 rfl ?_
  refine lv_goto (tgt := 1286) hx hb dL_law_1011 (by decide) ?_
  exact W.widen (by show cs + 0 ≤ cs + 1; omega) (by show ss + 0 ≤ ss + 6; omega) (hk _ _ _ ⟨w1, w2, fo, hw, hHx, hHm, hMx⟩ hl)

set_option maxHeartbeats 4000000 in
set_option maxRecDepth 100000 in
theorem lc_26 {γ : kΓ} {l : Launch} {p : Program} {e : Env} {s : State} {m : MethodId} {below : List Frame} {meth : Method} {c : Code} {A : Nat → Prop} {Q : State → Prop} {b L : Nat} {xs : Nat → Int32} {x z ou : Nat} {ax am : List Nat} {i : Int32} {cs ss : Nat} (hC : kC γ p s m [Value.ref b].toArray c code 7 RL A) (hX : va_X b L xs s s.heap) (hbl : b < s.heap.size) (hbA : ¬ A b) (hl9 : l.stackTraces = false) (hax : ax[0]? = some x) (ham : am[0]? = some z) (hi : ∀ j : Int32, 0 ≤ j → j ≤ 6 → vp_in (i + j) L) (hcs : cs + 1 ≤ 601024) (hss : ss + 6 ≤ 7293034)
    (hk : ∀ (H : Heap) (locs : List Loc) (ls : Array Slot), lIv γ A ax am ou s H locs → lv_has ls 7 [(4, .int i), (0, .ref b), (1, .ref x), (2, .ref z), (3, .ref ou)] → W p l e room_1 s m [Value.ref b].toArray below meth c H locs (cs + 1) (ss + 6) Q (F0 m 1286 ls []))
    {H : Heap} {locs : List Loc} {ls : Array Slot} (hI : lIv γ A ax am ou s H locs) (hl : lv_has ls 7 [(4, .int i), (0, .ref b), (1, .ref x), (2, .ref z), (3, .ref ou)]) : W p l e room_1 s m [Value.ref b].toArray below meth c H locs cs ss Q (F0 m 1014 ls []) := by
  have hx := hC.1
  have hb := hC.2.1
  obtain ⟨wx, wm, fo, hw, hHx, hHm, hMx⟩ := hI
  refine lv_aload_n hx hb dL_law_1014 rfl (lv_at hl 2 rfl) ?_
  refine lv_aload_n hx hb dL_law_1015 rfl (lv_at hl 1 rfl) ?_
  refine lv_iload hx hb dL_law_1016 (lv_at hl 0 rfl) ?_
  refine lv_iconst (v := 1) hx hb dL_law_1018 (by decide) ?_
  refine lv_iadd hx hb dL_law_1019 ?_
  refine va_sld hx hb hX hbl hbA hw.2.2 (hi 1 (by decide) (by decide)) dL_law_1020 ?_
  refine lv_topi (fun v1 ev1 => ?_)
  clear ev1
  obtain ⟨fsx, hfx⟩ := c_recv hHx hax
  obtain ⟨y9, hy9, hs9⟩ := cs_166 γ l
  cases hy9
  refine l_V 1 gw_938 gw_939 gw_940 gw_1 gw_941 hd_X11_ring hC hw (hs9 ax wx [.ref x, .int v1] ⟨hHx, trivial, ⟨v_ref rfl hax, v_int _, trivial⟩, fun f hf => (by cases hf), fun f hf => (by cases hf)⟩) ⟨by decide, by decide⟩ ⟨by show cs + 0 ≤ 601024; omega, by show ss + 0 ≤ 7293034; omega⟩ hl.1 rfl hfx rfl rfl (Nat.le_of_ble_eq_true rfl) dL_law_1021 (fun r w1 H locs hq hw => ?_)
  obtain ⟨v9, rfl⟩ := l_ri (c := cn_166) rfl hq
  have hHx := hq.1
  clear hq hs9 hfx
  refine W.eq (g2 := F0 m 1024 ls [.int v9]) rfl ?_
  refine W.widen (k := cs) (n := ss) (Nat.le_refl _) (Nat.le_refl _) ?_
  refine lv_pop hx hb dL_law_1024 rfl ?_
  clear v9
  have hw := hw.perm b_sw
  refine lv_aload_n hx hb dL_law_1025 rfl (lv_at hl 3 rfl) ?_
  refine lv_aload_n hx hb dL_law_1026 rfl (lv_at hl 1 rfl) ?_
  refine lv_iload hx hb dL_law_1027 (lv_at hl 0 rfl) ?_
  refine lv_iconst (v := 1) hx hb dL_law_1029 (by decide) ?_
  refine lv_iadd hx hb dL_law_1030 ?_
  refine va_sld hx hb hX hbl hbA hw.2.2 (hi 1 (by decide) (by decide)) dL_law_1031 ?_
  refine lv_topi (fun v2 ev2 => ?_)
  clear ev2
  obtain ⟨fsz, hfz⟩ := m_recv hHm ham
  obtain ⟨y8, hy8, hs8⟩ := m_up rfl (ms_518 γ l)
  cases hy8
  refine l_V 1 gw_1776 gw_1777 gw_1778 gw_15 gw_1779 hd_X12_ring hC hw (hs8 am wm [.ref z, .int v2] ⟨hHm, hMx, ⟨v_ref rfl ham, v_int _, trivial⟩, fun f hf => (by cases hf), fun f hf => (by cases hf)⟩) ⟨by decide, by decide⟩ ⟨by show cs + 0 ≤ 601024; omega, by show ss + 0 ≤ 7293034; omega⟩ hl.1 rfl hfz rfl rfl (Nat.le_of_ble_eq_true rfl) dL_law_1032 (fun r w2 H locs hq hw => ?_)
  obtain ⟨v8, rfl⟩ := l_ri (c := mn_518) rfl hq
  have hHm := hq.1
  have hMx := hq.2.1
  clear hq hs8 hfz
  refine W.eq (g2 := F0 m 1035 ls [.int v8]) rfl ?_
  have hw := hw.perm b_sw
  refine lv_pop hx hb dL_law_1035 rfl ?_
  refine lv_goto (tgt := 1286) hx hb dL_law_1036 (by decide) ?_
  exact W.widen (by show cs + 0 ≤ cs + 1; omega) (by show ss + 0 ≤ ss + 6; omega) (hk _ _ _ ⟨w1, w2, fo, hw, hHx, hHm, hMx⟩ hl)

set_option maxHeartbeats 4000000 in
set_option maxRecDepth 100000 in
theorem lc_28 {γ : kΓ} {l : Launch} {p : Program} {e : Env} {s : State} {m : MethodId} {below : List Frame} {meth : Method} {c : Code} {A : Nat → Prop} {Q : State → Prop} {b L : Nat} {xs : Nat → Int32} {x z ou : Nat} {ax am : List Nat} {i : Int32} {cs ss : Nat} (hC : kC γ p s m [Value.ref b].toArray c code 7 RL A) (hX : va_X b L xs s s.heap) (hbl : b < s.heap.size) (hbA : ¬ A b) (hl9 : l.stackTraces = false) (hax : ax[0]? = some x) (ham : am[0]? = some z) (hi : ∀ j : Int32, 0 ≤ j → j ≤ 6 → vp_in (i + j) L) (hcs : cs + 1 ≤ 601024) (hss : ss + 6 ≤ 7293034)
    (hk : ∀ (H : Heap) (locs : List Loc) (ls : Array Slot), lIv γ A ax am ou s H locs → lv_has ls 7 [(4, .int i), (0, .ref b), (1, .ref x), (2, .ref z), (3, .ref ou)] → W p l e room_1 s m [Value.ref b].toArray below meth c H locs (cs + 1) (ss + 6) Q (F0 m 1286 ls []))
    {H : Heap} {locs : List Loc} {ls : Array Slot} (hI : lIv γ A ax am ou s H locs) (hl : lv_has ls 7 [(4, .int i), (0, .ref b), (1, .ref x), (2, .ref z), (3, .ref ou)]) : W p l e room_1 s m [Value.ref b].toArray below meth c H locs cs ss Q (F0 m 1131 ls []) := by
  have hx := hC.1
  have hb := hC.2.1
  obtain ⟨wx, wm, fo, hw, hHx, hHm, hMx⟩ := hI
  refine lv_aload_n hx hb dL_law_1131 rfl (lv_at hl 2 rfl) ?_
  refine lv_aload_n hx hb dL_law_1132 rfl (lv_at hl 1 rfl) ?_
  refine lv_iload hx hb dL_law_1133 (lv_at hl 0 rfl) ?_
  refine lv_iconst (v := 1) hx hb dL_law_1135 (by decide) ?_
  refine lv_iadd hx hb dL_law_1136 ?_
  refine va_sld hx hb hX hbl hbA hw.2.2 (hi 1 (by decide) (by decide)) dL_law_1137 ?_
  refine lv_topi (fun v1 ev1 => ?_)
  clear ev1
  obtain ⟨fsx, hfx⟩ := c_recv hHx hax
  obtain ⟨y9, hy9, hs9⟩ := cs_163 γ l
  cases hy9
  refine l_V 1 gw_857 gw_858 gw_859 gw_1 gw_860 hd_X11_other hC hw (hs9 ax wx [.ref x, .int v1] ⟨hHx, trivial, ⟨v_ref rfl hax, v_int _, trivial⟩, fun f hf => (by cases hf), fun f hf => (by cases hf)⟩) ⟨by decide, by decide⟩ ⟨by show cs + 0 ≤ 601024; omega, by show ss + 0 ≤ 7293034; omega⟩ hl.1 rfl hfx rfl rfl (Nat.le_of_ble_eq_true rfl) dL_law_1138 (fun r w1 H locs hq hw => ?_)
  obtain ⟨v9, rfl⟩ := l_ri (c := cn_163) rfl hq
  have hHx := hq.1
  clear hq hs9 hfx
  refine W.eq (g2 := F0 m 1141 ls [.int v9]) rfl ?_
  refine W.widen (k := cs) (n := ss) (Nat.le_refl _) (Nat.le_refl _) ?_
  refine lv_pop hx hb dL_law_1141 rfl ?_
  clear v9
  have hw := hw.perm b_sw
  refine lv_aload_n hx hb dL_law_1142 rfl (lv_at hl 3 rfl) ?_
  refine lv_aload_n hx hb dL_law_1143 rfl (lv_at hl 1 rfl) ?_
  refine lv_iload hx hb dL_law_1144 (lv_at hl 0 rfl) ?_
  refine lv_iconst (v := 1) hx hb dL_law_1146 (by decide) ?_
  refine lv_iadd hx hb dL_law_1147 ?_
  refine va_sld hx hb hX hbl hbA hw.2.2 (hi 1 (by decide) (by decide)) dL_law_1148 ?_
  refine lv_topi (fun v2 ev2 => ?_)
  clear ev2
  obtain ⟨fsz, hfz⟩ := m_recv hHm ham
  obtain ⟨y8, hy8, hs8⟩ := mg_other γ l
  cases hy8
  refine l_V 1 gw_1672 gw_1673 gw_1674 gw_15 gw_1675 hd_X12_other hC hw (hs8 am wm [.ref z, .int v2] ⟨hHm, hMx, ⟨v_ref rfl ham, v_int _, trivial⟩, fun f hf => (by cases hf), fun f hf => (by cases hf)⟩) ⟨by decide, by decide⟩ ⟨by show cs + 0 ≤ 601024; omega, by show ss + 0 ≤ 7293034; omega⟩ hl.1 rfl hfz rfl rfl (Nat.le_of_ble_eq_true rfl) dL_law_1149 (fun r w2 H locs hq hw => ?_)
  obtain ⟨v8, rfl⟩ := l_ri (c := (jG 88)) rfl hq
  have hHm := hq.1
  have hMx := hq.2.1
  clear hq hs8 hfz
  refine W.eq (g2 := F0 m 1152 ls [.int v8]) rfl ?_
  have hw := hw.perm b_sw
  refine lv_pop hx hb dL_law_1152 rfl ?_
  refine lv_goto (tgt := 1286) hx hb dL_law_1153 (by decide) ?_
  exact W.widen (by show cs + 0 ≤ cs + 1; omega) (by show ss + 0 ≤ ss + 6; omega) (hk _ _ _ ⟨w1, w2, fo, hw, hHx, hHm, hMx⟩ hl)

set_option maxHeartbeats 4000000 in
set_option maxRecDepth 100000 in
theorem lc_29 {γ : kΓ} {l : Launch} {p : Program} {e : Env} {s : State} {m : MethodId} {below : List Frame} {meth : Method} {c : Code} {A : Nat → Prop} {Q : State → Prop} {b L : Nat} {xs : Nat → Int32} {x z ou : Nat} {ax am : List Nat} {i : Int32} {cs ss : Nat} (hC : kC γ p s m [Value.ref b].toArray c code 7 RL A) (hX : va_X b L xs s s.heap) (hbl : b < s.heap.size) (hbA : ¬ A b) (hl9 : l.stackTraces = false) (hax : ax[0]? = some x) (ham : am[0]? = some z) (hi : ∀ j : Int32, 0 ≤ j → j ≤ 6 → vp_in (i + j) L) (hcs : cs + 1 ≤ 601024) (hss : ss + 6 ≤ 7293034)
    (hk : ∀ (H : Heap) (locs : List Loc) (ls : Array Slot), lIv γ A ax am ou s H locs → lv_has ls 7 [(4, .int i), (0, .ref b), (1, .ref x), (2, .ref z), (3, .ref ou)] → W p l e room_1 s m [Value.ref b].toArray below meth c H locs (cs + 1) (ss + 6) Q (F0 m 1286 ls []))
    {H : Heap} {locs : List Loc} {ls : Array Slot} (hI : lIv γ A ax am ou s H locs) (hl : lv_has ls 7 [(4, .int i), (0, .ref b), (1, .ref x), (2, .ref z), (3, .ref ou)]) : W p l e room_1 s m [Value.ref b].toArray below meth c H locs cs ss Q (F0 m 1156 ls []) := by
  have hx := hC.1
  have hb := hC.2.1
  obtain ⟨wx, wm, fo, hw, hHx, hHm, hMx⟩ := hI
  refine lv_aload_n hx hb dL_law_1156 rfl (lv_at hl 2 rfl) ?_
  refine lv_aload_n hx hb dL_law_1157 rfl (lv_at hl 1 rfl) ?_
  refine lv_iload hx hb dL_law_1158 (lv_at hl 0 rfl) ?_
  refine lv_iconst (v := 1) hx hb dL_law_1160 (by decide) ?_
  refine lv_iadd hx hb dL_law_1161 ?_
  refine va_sld hx hb hX hbl hbA hw.2.2 (hi 1 (by decide) (by decide)) dL_law_1162 ?_
  refine lv_topi (fun v1 ev1 => ?_)
  clear ev1
  refine lv_aload_n hx hb dL_law_1163 rfl (lv_at hl 1 rfl) ?_
  refine lv_iload hx hb dL_law_1164 (lv_at hl 0 rfl) ?_
  refine lv_iconst (v := 2) hx hb dL_law_1166 (by decide) ?_
  refine lv_iadd hx hb dL_law_1167 ?_
  refine va_sld hx hb hX hbl hbA hw.2.2 (hi 2 (by decide) (by decide)) dL_law_1168 ?_
  refine lv_topi (fun v2 ev2 => ?_)
  clear ev2
  refine lv_aload_n hx hb dL_law_1169 rfl (lv_at hl 1 rfl) ?_
  refine lv_iload hx hb dL_law_1170 (lv_at hl 0 rfl) ?_
  refine lv_iconst (v := 3) hx hb dL_law_1172 (by decide) ?_
  refine lv_iadd hx hb dL_law_1173 ?_
  refine va_sld hx hb hX hbl hbA hw.2.2 (hi 3 (by decide) (by decide)) dL_law_1174 ?_
  refine lv_topi (fun v3 ev3 => ?_)
  clear ev3
  refine lv_aload_n hx hb dL_law_1175 rfl (lv_at hl 4 rfl) ?_
  have hw := hw.perm b_sw2
  refine l_SW 5 gw_1162 gw_1163 gw_0 gw_1164 hd_L_lives hC hw (h_lives γ l hl9 v1 v2 v3 hHx hax) ⟨by decide, by decide⟩ ⟨by show cs + 1 ≤ 601024; omega, by show ss + 6 ≤ 7293034; omega⟩ hl.1 rfl rfl (Nat.le_of_ble_eq_true rfl) dL_law_1176 (fun r w1 H locs hq hw => ?_)
  obtain ⟨k9, wx1, fo1, rfl, rfl, hHx⟩ := hq
  refine W.eq (g2 := F0 m 1179 ls [.int k9]) rfl ?_
  refine W.widen (k := cs + 1) (n := ss + 6) (Nat.le_refl _) (Nat.le_refl _) ?_
  refine lv_istore (lv' := [(5, .int k9), (4, .int i), (0, .ref b), (1, .ref x), (2, .ref z), (3, .ref ou)]) hx hb dL_law_1179 hl (by decide) rfl (fun ls hl => ?_)
  have hw := hw.perm b_sw3
  have hw := hw.perm b_sw
  refine lv_aload_n hx hb dL_law_1181 rfl (lv_at hl 4 rfl) ?_
  refine lv_aload_n hx hb dL_law_1182 rfl (lv_at hl 2 rfl) ?_
  refine lv_iload hx hb dL_law_1183 (lv_at hl 1 rfl) ?_
  refine lv_iconst (v := 1) hx hb dL_law_1185 (by decide) ?_
  refine lv_iadd hx hb dL_law_1186 ?_
  refine va_sld hx hb hX hbl hbA hw.2.2 (hi 1 (by decide) (by decide)) dL_law_1187 ?_
  refine lv_topi (fun v4 ev4 => ?_)
  clear ev4
  refine lv_aload_n hx hb dL_law_1188 rfl (lv_at hl 2 rfl) ?_
  refine lv_iload hx hb dL_law_1189 (lv_at hl 1 rfl) ?_
  refine lv_iconst (v := 2) hx hb dL_law_1191 (by decide) ?_
  refine lv_iadd hx hb dL_law_1192 ?_
  refine va_sld hx hb hX hbl hbA hw.2.2 (hi 2 (by decide) (by decide)) dL_law_1193 ?_
  refine lv_topi (fun v5 ev5 => ?_)
  clear ev5
  refine lv_aload_n hx hb dL_law_1194 rfl (lv_at hl 2 rfl) ?_
  refine lv_iload hx hb dL_law_1195 (lv_at hl 1 rfl) ?_
  refine lv_iconst (v := 3) hx hb dL_law_1197 (by decide) ?_
  refine lv_iadd hx hb dL_law_1198 ?_
  refine va_sld hx hb hX hbl hbA hw.2.2 (hi 3 (by decide) (by decide)) dL_law_1199 ?_
  refine lv_topi (fun v6 ev6 => ?_)
  clear ev6
  obtain ⟨fsz, hfz⟩ := m_recv hHm ham
  obtain ⟨y8, hy8, hs8⟩ := mx_449 γ l
  cases hy8
  refine l_V 3 gw_1787 gw_1788 gw_1789 gw_15 gw_1790 hd_X12_lives hC hw (hs8 am wm [.ref z, .int v4, .int v5, .int v6] ⟨hHm, hMx, ⟨v_ref rfl ham, v_int _, v_int _, v_int _, trivial⟩, fun f hf => (by cases hf), fun f hf => (by cases hf)⟩) ⟨by decide, by decide⟩ ⟨by show cs + 1 + 0 ≤ 601024; omega, by show ss + 6 + 0 ≤ 7293034; omega⟩ hl.1 rfl hfz rfl rfl (Nat.le_of_ble_eq_true rfl) dL_law_1200 (fun r w2 H locs hq hw => ?_)
  obtain ⟨v8, rfl⟩ := l_ri (c := mn_449) rfl hq
  have hHm := hq.1
  have hMx := hq.2.1
  clear hq hs8 hfz
  refine W.eq (g2 := F0 m 1203 ls [.int v8]) rfl ?_
  have hw := hw.perm b_sw
  refine lv_istore (lv' := [(6, .int v8), (5, .int k9), (4, .int i), (0, .ref b), (1, .ref x), (2, .ref z), (3, .ref ou)]) hx hb dL_law_1203 hl (by decide) rfl (fun ls hl => ?_)
  refine lv_goto (tgt := 1286) hx hb dL_law_1205 (by decide) ?_
  exact W.widen (by show cs + 1 + 0 ≤ cs + 1; omega) (by show ss + 6 + 0 ≤ ss + 6; omega) (hk _ _ _ ⟨wx1, w2, fo1, hw, hHx, hHm, hMx⟩ (lv_sub hl [2, 3, 4, 5, 6] rfl))

set_option maxHeartbeats 4000000 in
set_option maxRecDepth 100000 in
theorem lc_30 {γ : kΓ} {l : Launch} {p : Program} {e : Env} {s : State} {m : MethodId} {below : List Frame} {meth : Method} {c : Code} {A : Nat → Prop} {Q : State → Prop} {b L : Nat} {xs : Nat → Int32} {x z ou : Nat} {ax am : List Nat} {i : Int32} {cs ss : Nat} (hC : kC γ p s m [Value.ref b].toArray c code 7 RL A) (hX : va_X b L xs s s.heap) (hbl : b < s.heap.size) (hbA : ¬ A b) (hl9 : l.stackTraces = false) (hax : ax[0]? = some x) (ham : am[0]? = some z) (hi : ∀ j : Int32, 0 ≤ j → j ≤ 6 → vp_in (i + j) L) (hcs : cs + 1 ≤ 601024) (hss : ss + 6 ≤ 7293034)
    (hk : ∀ (H : Heap) (locs : List Loc) (ls : Array Slot), lIv γ A ax am ou s H locs → lv_has ls 7 [(4, .int i), (0, .ref b), (1, .ref x), (2, .ref z), (3, .ref ou)] → W p l e room_1 s m [Value.ref b].toArray below meth c H locs (cs + 1) (ss + 6) Q (F0 m 1286 ls []))
    {H : Heap} {locs : List Loc} {ls : Array Slot} (hI : lIv γ A ax am ou s H locs) (hl : lv_has ls 7 [(4, .int i), (0, .ref b), (1, .ref x), (2, .ref z), (3, .ref ou)]) : W p l e room_1 s m [Value.ref b].toArray below meth c H locs cs ss Q (F0 m 1208 ls []) := by
  have hx := hC.1
  have hb := hC.2.1
  obtain ⟨wx, wm, fo, hw, hHx, hHm, hMx⟩ := hI
  refine lv_aload_n hx hb dL_law_1208 rfl (lv_at hl 2 rfl) ?_
  refine lv_aload_n hx hb dL_law_1209 rfl (lv_at hl 1 rfl) ?_
  refine lv_iload hx hb dL_law_1210 (lv_at hl 0 rfl) ?_
  refine lv_iconst (v := 1) hx hb dL_law_1212 (by decide) ?_
  refine lv_iadd hx hb dL_law_1213 ?_
  refine va_sld hx hb hX hbl hbA hw.2.2 (hi 1 (by decide) (by decide)) dL_law_1214 ?_
  refine lv_topi (fun v1 ev1 => ?_)
  clear ev1
  refine lv_aload_n hx hb dL_law_1215 rfl (lv_at hl 1 rfl) ?_
  refine lv_iload hx hb dL_law_1216 (lv_at hl 0 rfl) ?_
  refine lv_iconst (v := 2) hx hb dL_law_1218 (by decide) ?_
  refine lv_iadd hx hb dL_law_1219 ?_
  refine va_sld hx hb hX hbl hbA hw.2.2 (hi 2 (by decide) (by decide)) dL_law_1220 ?_
  refine lv_topi (fun v2 ev2 => ?_)
  clear ev2
  have hgo : ∀ w0 : Int32, (w0 = 0 ∨ w0 = 1) → W p l e room_1 s m [Value.ref b].toArray below meth c H locs cs ss Q (F0 m 1229 ls [.int w0, .int v1, .ref x]) := ?_
  · refine lv_if_eq (tgt := 1228) hx hb dL_law_1221 (by decide) (fun _ => ?_) (fun _ => ?_)
    · refine lv_iconst (v := 0) hx hb dL_law_1228 (by decide) ?_
      exact hgo 0 (.inl rfl)
    · refine lv_iconst (v := 1) hx hb dL_law_1224 (by decide) ?_
      refine lv_goto (tgt := 1229) hx hb dL_law_1225 (by decide) ?_
      exact hgo 1 (.inr rfl)
  intro w0 h0
  obtain ⟨fsx, hfx⟩ := c_recv hHx hax
  obtain ⟨y9, hy9, hs9⟩ := cs_138 γ l
  cases hy9
  refine l_V 2 gw_847 gw_848 gw_849 gw_1 gw_850 hd_X11_mark hC hw (hs9 ax wx [.ref x, .int v1, .int w0] ⟨hHx, trivial, ⟨v_ref rfl hax, v_int _, v_bool h0, trivial⟩, fun f hf => (by cases hf), fun f hf => (by cases hf)⟩) ⟨by decide, by decide⟩ ⟨by show cs + 0 ≤ 601024; omega, by show ss + 0 ≤ 7293034; omega⟩ hl.1 rfl hfx rfl rfl (Nat.le_of_ble_eq_true rfl) dL_law_1229 (fun r w1 H locs hq hw => ?_)
  obtain ⟨v9, rfl⟩ := l_ri (c := cn_138) rfl hq
  have hHx := hq.1
  clear hq hs9 hfx
  refine W.eq (g2 := F0 m 1232 ls [.int v9]) rfl ?_
  refine W.widen (k := cs) (n := ss) (Nat.le_refl _) (Nat.le_refl _) ?_
  refine lv_pop hx hb dL_law_1232 rfl ?_
  clear v9
  have hw := hw.perm b_sw
  refine lv_aload_n hx hb dL_law_1233 rfl (lv_at hl 3 rfl) ?_
  refine lv_aload_n hx hb dL_law_1234 rfl (lv_at hl 1 rfl) ?_
  refine lv_iload hx hb dL_law_1235 (lv_at hl 0 rfl) ?_
  refine lv_iconst (v := 1) hx hb dL_law_1237 (by decide) ?_
  refine lv_iadd hx hb dL_law_1238 ?_
  refine va_sld hx hb hX hbl hbA hw.2.2 (hi 1 (by decide) (by decide)) dL_law_1239 ?_
  refine lv_topi (fun v3 ev3 => ?_)
  clear ev3
  refine lv_aload_n hx hb dL_law_1240 rfl (lv_at hl 1 rfl) ?_
  refine lv_iload hx hb dL_law_1241 (lv_at hl 0 rfl) ?_
  refine lv_iconst (v := 2) hx hb dL_law_1243 (by decide) ?_
  refine lv_iadd hx hb dL_law_1244 ?_
  refine va_sld hx hb hX hbl hbA hw.2.2 (hi 2 (by decide) (by decide)) dL_law_1245 ?_
  refine lv_topi (fun v4 ev4 => ?_)
  clear ev4
  clear h0 w0
  have hgo : ∀ w0 : Int32, (w0 = 0 ∨ w0 = 1) → W p l e room_1 s m [Value.ref b].toArray below meth c H locs cs ss Q (F0 m 1254 ls [.int w0, .int v3, .ref z]) := ?_
  · refine lv_if_eq (tgt := 1253) hx hb dL_law_1246 (by decide) (fun _ => ?_) (fun _ => ?_)
    · refine lv_iconst (v := 0) hx hb dL_law_1253 (by decide) ?_
      exact hgo 0 (.inl rfl)
    · refine lv_iconst (v := 1) hx hb dL_law_1249 (by decide) ?_
      refine lv_goto (tgt := 1254) hx hb dL_law_1250 (by decide) ?_
      exact hgo 1 (.inr rfl)
  intro w0 h0
  obtain ⟨fsz, hfz⟩ := m_recv hHm ham
  obtain ⟨y8, hy8, hs8⟩ := mx_451 γ l
  cases hy8
  refine l_V 2 gw_1803 gw_1804 gw_1805 gw_15 gw_1806 hd_X12_mark hC hw (hs8 am wm [.ref z, .int v3, .int w0] ⟨hHm, hMx, ⟨v_ref rfl ham, v_int _, v_bool h0, trivial⟩, fun f hf => (by cases hf), fun f hf => (by cases hf)⟩) ⟨by decide, by decide⟩ ⟨by show cs + 0 ≤ 601024; omega, by show ss + 0 ≤ 7293034; omega⟩ hl.1 rfl hfz rfl rfl (Nat.le_of_ble_eq_true rfl) dL_law_1254 (fun r w2 H locs hq hw => ?_)
  obtain ⟨v8, rfl⟩ := l_ri (c := mn_451) rfl hq
  have hHm := hq.1
  have hMx := hq.2.1
  clear hq hs8 hfz
  refine W.eq (g2 := F0 m 1257 ls [.int v8]) rfl ?_
  have hw := hw.perm b_sw
  refine lv_pop hx hb dL_law_1257 rfl ?_
  refine lv_goto (tgt := 1286) hx hb dL_law_1258 (by decide) ?_
  exact W.widen (by show cs + 0 ≤ cs + 1; omega) (by show ss + 0 ≤ ss + 6; omega) (hk _ _ _ ⟨w1, w2, fo, hw, hHx, hHm, hMx⟩ hl)

set_option maxHeartbeats 4000000 in
set_option maxRecDepth 100000 in
theorem lc_31 {γ : kΓ} {l : Launch} {p : Program} {e : Env} {s : State} {m : MethodId} {below : List Frame} {meth : Method} {c : Code} {A : Nat → Prop} {Q : State → Prop} {b L : Nat} {xs : Nat → Int32} {x z ou : Nat} {ax am : List Nat} {i : Int32} {cs ss : Nat} (hC : kC γ p s m [Value.ref b].toArray c code 7 RL A) (hX : va_X b L xs s s.heap) (hbl : b < s.heap.size) (hbA : ¬ A b) (hl9 : l.stackTraces = false) (hax : ax[0]? = some x) (ham : am[0]? = some z) (hi : ∀ j : Int32, 0 ≤ j → j ≤ 6 → vp_in (i + j) L) (hcs : cs + 1 ≤ 601024) (hss : ss + 6 ≤ 7293034)
    (hk : ∀ (H : Heap) (locs : List Loc) (ls : Array Slot), lIv γ A ax am ou s H locs → lv_has ls 7 [(4, .int i), (0, .ref b), (1, .ref x), (2, .ref z), (3, .ref ou)] → W p l e room_1 s m [Value.ref b].toArray below meth c H locs (cs + 1) (ss + 6) Q (F0 m 1286 ls []))
    {H : Heap} {locs : List Loc} {ls : Array Slot} (hI : lIv γ A ax am ou s H locs) (hl : lv_has ls 7 [(4, .int i), (0, .ref b), (1, .ref x), (2, .ref z), (3, .ref ou)]) : W p l e room_1 s m [Value.ref b].toArray below meth c H locs cs ss Q (F0 m 1261 ls []) := by
  have hx := hC.1
  have hb := hC.2.1
  obtain ⟨wx, wm, fo, hw, hHx, hHm, hMx⟩ := hI
  refine lv_aload_n hx hb dL_law_1261 rfl (lv_at hl 2 rfl) ?_
  refine lv_aload_n hx hb dL_law_1262 rfl (lv_at hl 1 rfl) ?_
  refine lv_iload hx hb dL_law_1263 (lv_at hl 0 rfl) ?_
  refine lv_iconst (v := 1) hx hb dL_law_1265 (by decide) ?_
  refine lv_iadd hx hb dL_law_1266 ?_
  refine va_sld hx hb hX hbl hbA hw.2.2 (hi 1 (by decide) (by decide)) dL_law_1267 ?_
  refine lv_topi (fun v1 ev1 => ?_)
  clear ev1
  obtain ⟨fsx, hfx⟩ := c_recv hHx hax
  obtain ⟨y9, hy9, hs9⟩ := cs_115 γ l
  cases hy9
  refine l_V 1 gw_739 gw_740 gw_741 gw_1 gw_742 hd_X11_count hC hw (hs9 ax wx [.ref x, .int v1] ⟨hHx, trivial, ⟨v_ref rfl hax, v_int _, trivial⟩, fun f hf => (by cases hf), fun f hf => (by cases hf)⟩) ⟨by decide, by decide⟩ ⟨by show cs + 0 ≤ 601024; omega, by show ss + 0 ≤ 7293034; omega⟩ hl.1 rfl hfx rfl rfl (Nat.le_of_ble_eq_true rfl) dL_law_1268 (fun r w1 H locs hq hw => ?_)
  obtain ⟨v9, rfl⟩ := l_ri (c := cn_115) rfl hq
  have hHx := hq.1
  clear hq hs9 hfx
  refine W.eq (g2 := F0 m 1271 ls [.int v9]) rfl ?_
  refine W.widen (k := cs) (n := ss) (Nat.le_refl _) (Nat.le_refl _) ?_
  refine lv_pop hx hb dL_law_1271 rfl ?_
  clear v9
  have hw := hw.perm b_sw
  refine lv_aload_n hx hb dL_law_1272 rfl (lv_at hl 3 rfl) ?_
  refine lv_aload_n hx hb dL_law_1273 rfl (lv_at hl 1 rfl) ?_
  refine lv_iload hx hb dL_law_1274 (lv_at hl 0 rfl) ?_
  refine lv_iconst (v := 1) hx hb dL_law_1276 (by decide) ?_
  refine lv_iadd hx hb dL_law_1277 ?_
  refine va_sld hx hb hX hbl hbA hw.2.2 (hi 1 (by decide) (by decide)) dL_law_1278 ?_
  refine lv_topi (fun v2 ev2 => ?_)
  clear ev2
  obtain ⟨fsz, hfz⟩ := m_recv hHm ham
  obtain ⟨y8, hy8, hs8⟩ := m_up rfl (ms_273 γ l)
  cases hy8
  refine l_V 1 gw_1811 gw_1812 gw_1813 gw_15 gw_1814 hd_X12_count hC hw (hs8 am wm [.ref z, .int v2] ⟨hHm, hMx, ⟨v_ref rfl ham, v_int _, trivial⟩, fun f hf => (by cases hf), fun f hf => (by cases hf)⟩) ⟨by decide, by decide⟩ ⟨by show cs + 0 ≤ 601024; omega, by show ss + 0 ≤ 7293034; omega⟩ hl.1 rfl hfz rfl rfl (Nat.le_of_ble_eq_true rfl) dL_law_1279 (fun r w2 H locs hq hw => ?_)
  obtain ⟨v8, rfl⟩ := l_ri (c := mn_273) rfl hq
  have hHm := hq.1
  have hMx := hq.2.1
  clear hq hs8 hfz
  refine W.eq (g2 := F0 m 1282 ls [.int v8]) rfl ?_
  have hw := hw.perm b_sw
  refine lv_pop hx hb dL_law_1282 rfl ?_
  refine lv_goto (tgt := 1286) hx hb dL_law_1283 (by decide) ?_
  exact W.widen (by show cs + 0 ≤ cs + 1; omega) (by show ss + 0 ≤ ss + 6; omega) (hk _ _ _ ⟨w1, w2, fo, hw, hHx, hHm, hMx⟩ hl)

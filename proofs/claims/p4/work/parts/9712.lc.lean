set_option maxHeartbeats 4000000 in
set_option maxRecDepth 100000 in
theorem lc_16 {γ : kΓ} {l : Launch} {p : Program} {e : Env} {s : State} {m : MethodId} {below : List Frame} {meth : Method} {c : Code} {A : Nat → Prop} {Q : State → Prop} {b L : Nat} {xs : Nat → Int32} {x z ou : Nat} {ax am : List Nat} {i : Int32} {cs ss : Nat} (hC : kC γ p s m [Value.ref b].toArray c code 7 RL A) (hX : va_X b L xs s s.heap) (hbl : b < s.heap.size) (hbA : ¬ A b) (hl9 : l.stackTraces = false) (hax : ax[0]? = some x) (ham : am[0]? = some z) (hi : ∀ j : Int32, 0 ≤ j → j ≤ 6 → vp_in (i + j) L) (hcs : cs + 1 ≤ 601024) (hss : ss + 6 ≤ 7293034)
    (hk : ∀ (H : Heap) (locs : List Loc) (ls : Array Slot), lIv γ A ax am ou s H locs → lv_has ls 7 [(4, .int i), (0, .ref b), (1, .ref x), (2, .ref z), (3, .ref ou)] → W p l e room_1 s m [Value.ref b].toArray below meth c H locs (cs + 1) (ss + 6) Q (F0 m 1258 ls []))
    {H : Heap} {locs : List Loc} {ls : Array Slot} (hI : lIv γ A ax am ou s H locs) (hl : lv_has ls 7 [(4, .int i), (0, .ref b), (1, .ref x), (2, .ref z), (3, .ref ou)]) : W p l e room_1 s m [Value.ref b].toArray below meth c H locs cs ss Q (F0 m 796 ls []) := by
  have hx := hC.1
  have hb := hC.2.1
  obtain ⟨wx, wm, fo, hw, hHx, hHm, hMx, hRl, S, S', hTc, hTm, hTr⟩ := hI
  refine lv_aload_n hx hb dL_law_796 rfl (lv_at hl 2 rfl) ?_
  obtain ⟨fsx, hfx⟩ := c_recv hHx hax
  obtain ⟨y9, hy9, hs9⟩ := cs_165 γ l
  cases hy9
  refine l_V 0 gw_979 gw_980 gw_981 gw_1 gw_982 hd_X11_poorest hC hw (hs9 ax wx [.ref x] ⟨hHx, trivial, ⟨v_ref rfl hax, trivial⟩, fun f hf => (by cases hf), fun f hf => (by cases hf)⟩) ⟨by decide, by decide⟩ ⟨by show cs + 0 ≤ 601024; omega, by show ss + 0 ≤ 7293034; omega⟩ hl.1 rfl hfx rfl rfl (Nat.le_of_ble_eq_true rfl) dL_law_797 (fun r w1 H locs hq hw => ?_)
  obtain ⟨v9, rfl⟩ := l_ri (c := cn_165) rfl hq
  have hkx := q_kp2 hHx hq.1 hq.2.2.1 (q := 1) (g := 1) (k := 1) rfl (by decide +kernel)
  have hkx2 : ∀ k, qsl2 w1 2 k = qsl2 wx 2 k := fun k => q_kp2 hHx hq.1 hq.2.2.1 (q := 2) (g := 2) (k := k) rfl (qm_no (by decide +kernel) k)
  replace hTc := cTo_keep hHx hq.1 hq.2.2.1 (by decide +kernel) hTc
  replace hHx := hq.1
  clear hq hs9 hfx
  refine W.eq (g2 := F0 m 800 ls [.int v9]) rfl ?_
  refine W.widen (k := cs) (n := ss) (Nat.le_refl _) (Nat.le_refl _) ?_
  refine lv_pop hx hb dL_law_800 rfl ?_
  clear v9
  have hw := hw.perm b_sw
  refine lv_aload_n hx hb dL_law_801 rfl (lv_at hl 3 rfl) ?_
  obtain ⟨fsz, hfz⟩ := m_recv hHm ham
  obtain ⟨y8, hy8, hs8⟩ := m_up rfl (ms_513 γ l)
  cases hy8
  refine l_V 0 gw_1740 gw_1741 gw_1742 gw_15 gw_1743 hd_X12_poorest hC hw (hs8 am wm [.ref z] ⟨hHm, hMx, ⟨v_ref rfl ham, trivial⟩, fun f hf => (by cases hf), fun f hf => (by cases hf)⟩) ⟨by decide, by decide⟩ ⟨by show cs + 0 ≤ 601024; omega, by show ss + 0 ≤ 7293034; omega⟩ hl.1 rfl hfz rfl rfl (Nat.le_of_ble_eq_true rfl) dL_law_802 (fun r w2 H locs hq hw => ?_)
  obtain ⟨v8, rfl⟩ := l_ri (c := mn_513) rfl hq
  have hkm := q_kp2 hHm hq.1 hq.2.2.1 (q := 0) (g := 0) (k := 1) rfl (by decide +kernel)
  have hkm2 : ∀ k, qsl2 w2 1 k = qsl2 wm 1 k := fun k => q_kp2 hHm hq.1 hq.2.2.1 (q := 1) (g := 1) (k := k) rfl (qm_no (by decide +kernel) k)
  replace hTm := mTo_keep hHm hq.1 hq.2.2.1 (by decide +kernel) hTm
  replace hHm := hq.1
  replace hMx := hq.2.1
  clear hq hs8 hfz
  refine W.eq (g2 := F0 m 805 ls [.int v8]) rfl ?_
  have hw := hw.perm b_sw
  refine lv_pop hx hb dL_law_805 rfl ?_
  refine lv_goto (tgt := 1258) hx hb dL_law_806 (by decide) ?_
  exact W.widen (by show cs + 0 ≤ cs + 1; omega) (by show ss + 0 ≤ ss + 6; omega) (hk _ _ _ ⟨w1, w2, fo, hw, hHx, hHm, hMx, (lR_keep hRl hkx hkx2 hkm hkm2), S, S', hTc, hTm, hTr⟩ hl)

set_option maxHeartbeats 4000000 in
set_option maxRecDepth 100000 in
theorem lc_17 {γ : kΓ} {l : Launch} {p : Program} {e : Env} {s : State} {m : MethodId} {below : List Frame} {meth : Method} {c : Code} {A : Nat → Prop} {Q : State → Prop} {b L : Nat} {xs : Nat → Int32} {x z ou : Nat} {ax am : List Nat} {i : Int32} {cs ss : Nat} (hC : kC γ p s m [Value.ref b].toArray c code 7 RL A) (hX : va_X b L xs s s.heap) (hbl : b < s.heap.size) (hbA : ¬ A b) (hl9 : l.stackTraces = false) (hax : ax[0]? = some x) (ham : am[0]? = some z) (hi : ∀ j : Int32, 0 ≤ j → j ≤ 6 → vp_in (i + j) L) (hcs : cs + 1 ≤ 601024) (hss : ss + 6 ≤ 7293034)
    (hk : ∀ (H : Heap) (locs : List Loc) (ls : Array Slot), lIv γ A ax am ou s H locs → lv_has ls 7 [(4, .int i), (0, .ref b), (1, .ref x), (2, .ref z), (3, .ref ou)] → W p l e room_1 s m [Value.ref b].toArray below meth c H locs (cs + 1) (ss + 6) Q (F0 m 1258 ls []))
    {H : Heap} {locs : List Loc} {ls : Array Slot} (hI : lIv γ A ax am ou s H locs) (hl : lv_has ls 7 [(4, .int i), (0, .ref b), (1, .ref x), (2, .ref z), (3, .ref ou)]) : W p l e room_1 s m [Value.ref b].toArray below meth c H locs cs ss Q (F0 m 809 ls []) := by
  have hx := hC.1
  have hb := hC.2.1
  obtain ⟨wx, wm, fo, hw, hHx, hHm, hMx, hRl, S, S', hTc, hTm, hTr⟩ := hI
  refine lv_aload_n hx hb dL_law_809 rfl (lv_at hl 2 rfl) ?_
  obtain ⟨fsx, hfx⟩ := c_recv hHx hax
  obtain ⟨y9, hy9, hs9⟩ := cs_127 γ l
  cases hy9
  refine l_V 0 gw_954 gw_955 gw_956 gw_1 gw_957 hd_X11_lacks hC hw (hs9 ax wx [.ref x] ⟨hHx, trivial, ⟨v_ref rfl hax, trivial⟩, fun f hf => (by cases hf), fun f hf => (by cases hf)⟩) ⟨by decide, by decide⟩ ⟨by show cs + 0 ≤ 601024; omega, by show ss + 0 ≤ 7293034; omega⟩ hl.1 rfl hfx rfl rfl (Nat.le_of_ble_eq_true rfl) dL_law_810 (fun r w1 H locs hq hw => ?_)
  obtain ⟨v9, rfl⟩ := l_ri (c := cn_127) rfl hq
  have hkx := q_kp2 hHx hq.1 hq.2.2.1 (q := 1) (g := 1) (k := 1) rfl (by decide +kernel)
  have hkx2 : ∀ k, qsl2 w1 2 k = qsl2 wx 2 k := fun k => q_kp2 hHx hq.1 hq.2.2.1 (q := 2) (g := 2) (k := k) rfl (qm_no (by decide +kernel) k)
  replace hTc := cTo_keep hHx hq.1 hq.2.2.1 (by decide +kernel) hTc
  replace hHx := hq.1
  clear hq hs9 hfx
  refine W.eq (g2 := F0 m 813 ls [.int v9]) rfl ?_
  refine W.widen (k := cs) (n := ss) (Nat.le_refl _) (Nat.le_refl _) ?_
  refine lv_pop hx hb dL_law_813 rfl ?_
  clear v9
  have hw := hw.perm b_sw
  refine lv_aload_n hx hb dL_law_814 rfl (lv_at hl 3 rfl) ?_
  obtain ⟨fsz, hfz⟩ := m_recv hHm ham
  obtain ⟨y8, hy8, hs8⟩ := m_up rfl (ms_428 γ l)
  cases hy8
  refine l_V 0 gw_1704 gw_1705 gw_1706 gw_15 gw_1707 hd_X12_lacks hC hw (hs8 am wm [.ref z] ⟨hHm, hMx, ⟨v_ref rfl ham, trivial⟩, fun f hf => (by cases hf), fun f hf => (by cases hf)⟩) ⟨by decide, by decide⟩ ⟨by show cs + 0 ≤ 601024; omega, by show ss + 0 ≤ 7293034; omega⟩ hl.1 rfl hfz rfl rfl (Nat.le_of_ble_eq_true rfl) dL_law_815 (fun r w2 H locs hq hw => ?_)
  obtain ⟨v8, rfl⟩ := l_ri (c := mn_428) rfl hq
  have hkm := q_kp2 hHm hq.1 hq.2.2.1 (q := 0) (g := 0) (k := 1) rfl (by decide +kernel)
  have hkm2 : ∀ k, qsl2 w2 1 k = qsl2 wm 1 k := fun k => q_kp2 hHm hq.1 hq.2.2.1 (q := 1) (g := 1) (k := k) rfl (qm_no (by decide +kernel) k)
  replace hTm := mTo_keep hHm hq.1 hq.2.2.1 (by decide +kernel) hTm
  replace hHm := hq.1
  replace hMx := hq.2.1
  clear hq hs8 hfz
  refine W.eq (g2 := F0 m 818 ls [.int v8]) rfl ?_
  have hw := hw.perm b_sw
  refine lv_pop hx hb dL_law_818 rfl ?_
  refine lv_goto (tgt := 1258) hx hb dL_law_819 (by decide) ?_
  exact W.widen (by show cs + 0 ≤ cs + 1; omega) (by show ss + 0 ≤ ss + 6; omega) (hk _ _ _ ⟨w1, w2, fo, hw, hHx, hHm, hMx, (lR_keep hRl hkx hkx2 hkm hkm2), S, S', hTc, hTm, hTr⟩ hl)

set_option maxHeartbeats 4000000 in
set_option maxRecDepth 100000 in
theorem lc_18 {γ : kΓ} {l : Launch} {p : Program} {e : Env} {s : State} {m : MethodId} {below : List Frame} {meth : Method} {c : Code} {A : Nat → Prop} {Q : State → Prop} {b L : Nat} {xs : Nat → Int32} {x z ou : Nat} {ax am : List Nat} {i : Int32} {cs ss : Nat} (hC : kC γ p s m [Value.ref b].toArray c code 7 RL A) (hX : va_X b L xs s s.heap) (hbl : b < s.heap.size) (hbA : ¬ A b) (hl9 : l.stackTraces = false) (hax : ax[0]? = some x) (ham : am[0]? = some z) (hi : ∀ j : Int32, 0 ≤ j → j ≤ 6 → vp_in (i + j) L) (hcs : cs + 1 ≤ 601024) (hss : ss + 6 ≤ 7293034)
    (hk : ∀ (H : Heap) (locs : List Loc) (ls : Array Slot), lIv γ A ax am ou s H locs → lv_has ls 7 [(4, .int i), (0, .ref b), (1, .ref x), (2, .ref z), (3, .ref ou)] → W p l e room_1 s m [Value.ref b].toArray below meth c H locs (cs + 1) (ss + 6) Q (F0 m 1258 ls []))
    {H : Heap} {locs : List Loc} {ls : Array Slot} (hI : lIv γ A ax am ou s H locs) (hl : lv_has ls 7 [(4, .int i), (0, .ref b), (1, .ref x), (2, .ref z), (3, .ref ou)]) : W p l e room_1 s m [Value.ref b].toArray below meth c H locs cs ss Q (F0 m 822 ls []) := by
  have hx := hC.1
  have hb := hC.2.1
  obtain ⟨wx, wm, fo, hw, hHx, hHm, hMx, hRl, S, S', hTc, hTm, hTr⟩ := hI
  refine lv_aload_n hx hb dL_law_822 rfl (lv_at hl 2 rfl) ?_
  obtain ⟨fsx, hfx⟩ := c_recv hHx hax
  obtain ⟨y9, hy9, hs9⟩ := cs_130 γ l
  cases hy9
  refine l_V 0 gw_962 gw_963 gw_964 gw_1 gw_965 hd_X11_givers hC hw (hs9 ax wx [.ref x] ⟨hHx, trivial, ⟨v_ref rfl hax, trivial⟩, fun f hf => (by cases hf), fun f hf => (by cases hf)⟩) ⟨by decide, by decide⟩ ⟨by show cs + 0 ≤ 601024; omega, by show ss + 0 ≤ 7293034; omega⟩ hl.1 rfl hfx rfl rfl (Nat.le_of_ble_eq_true rfl) dL_law_823 (fun r w1 H locs hq hw => ?_)
  obtain ⟨v9, rfl⟩ := l_ri (c := cn_130) rfl hq
  have hkx := q_kp2 hHx hq.1 hq.2.2.1 (q := 1) (g := 1) (k := 1) rfl (by decide +kernel)
  have hkx2 : ∀ k, qsl2 w1 2 k = qsl2 wx 2 k := fun k => q_kp2 hHx hq.1 hq.2.2.1 (q := 2) (g := 2) (k := k) rfl (qm_no (by decide +kernel) k)
  replace hTc := cTo_keep hHx hq.1 hq.2.2.1 (by decide +kernel) hTc
  replace hHx := hq.1
  clear hq hs9 hfx
  refine W.eq (g2 := F0 m 826 ls [.int v9]) rfl ?_
  refine W.widen (k := cs) (n := ss) (Nat.le_refl _) (Nat.le_refl _) ?_
  refine lv_pop hx hb dL_law_826 rfl ?_
  clear v9
  have hw := hw.perm b_sw
  refine lv_aload_n hx hb dL_law_827 rfl (lv_at hl 3 rfl) ?_
  obtain ⟨fsz, hfz⟩ := m_recv hHm ham
  obtain ⟨y8, hy8, hs8⟩ := m_up rfl (ms_299 γ l)
  cases hy8
  refine l_V 0 gw_1712 gw_1713 gw_1714 gw_15 gw_1715 hd_X12_givers hC hw (hs8 am wm [.ref z] ⟨hHm, hMx, ⟨v_ref rfl ham, trivial⟩, fun f hf => (by cases hf), fun f hf => (by cases hf)⟩) ⟨by decide, by decide⟩ ⟨by show cs + 0 ≤ 601024; omega, by show ss + 0 ≤ 7293034; omega⟩ hl.1 rfl hfz rfl rfl (Nat.le_of_ble_eq_true rfl) dL_law_828 (fun r w2 H locs hq hw => ?_)
  obtain ⟨v8, rfl⟩ := l_ri (c := mn_299) rfl hq
  have hkm := q_kp2 hHm hq.1 hq.2.2.1 (q := 0) (g := 0) (k := 1) rfl (by decide +kernel)
  have hkm2 : ∀ k, qsl2 w2 1 k = qsl2 wm 1 k := fun k => q_kp2 hHm hq.1 hq.2.2.1 (q := 1) (g := 1) (k := k) rfl (qm_no (by decide +kernel) k)
  replace hTm := mTo_keep hHm hq.1 hq.2.2.1 (by decide +kernel) hTm
  replace hHm := hq.1
  replace hMx := hq.2.1
  clear hq hs8 hfz
  refine W.eq (g2 := F0 m 831 ls [.int v8]) rfl ?_
  have hw := hw.perm b_sw
  refine lv_pop hx hb dL_law_831 rfl ?_
  refine lv_goto (tgt := 1258) hx hb dL_law_832 (by decide) ?_
  exact W.widen (by show cs + 0 ≤ cs + 1; omega) (by show ss + 0 ≤ ss + 6; omega) (hk _ _ _ ⟨w1, w2, fo, hw, hHx, hHm, hMx, (lR_keep hRl hkx hkx2 hkm hkm2), S, S', hTc, hTm, hTr⟩ hl)

set_option maxHeartbeats 4000000 in
set_option maxRecDepth 100000 in
theorem lc_19 {γ : kΓ} {l : Launch} {p : Program} {e : Env} {s : State} {m : MethodId} {below : List Frame} {meth : Method} {c : Code} {A : Nat → Prop} {Q : State → Prop} {b L : Nat} {xs : Nat → Int32} {x z ou : Nat} {ax am : List Nat} {i : Int32} {cs ss : Nat} (hC : kC γ p s m [Value.ref b].toArray c code 7 RL A) (hX : va_X b L xs s s.heap) (hbl : b < s.heap.size) (hbA : ¬ A b) (hl9 : l.stackTraces = false) (hax : ax[0]? = some x) (ham : am[0]? = some z) (hi : ∀ j : Int32, 0 ≤ j → j ≤ 6 → vp_in (i + j) L) (hcs : cs + 1 ≤ 601024) (hss : ss + 6 ≤ 7293034)
    (hk : ∀ (H : Heap) (locs : List Loc) (ls : Array Slot), lIv γ A ax am ou s H locs → lv_has ls 7 [(4, .int i), (0, .ref b), (1, .ref x), (2, .ref z), (3, .ref ou)] → W p l e room_1 s m [Value.ref b].toArray below meth c H locs (cs + 1) (ss + 6) Q (F0 m 1258 ls []))
    {H : Heap} {locs : List Loc} {ls : Array Slot} (hI : lIv γ A ax am ou s H locs) (hl : lv_has ls 7 [(4, .int i), (0, .ref b), (1, .ref x), (2, .ref z), (3, .ref ou)]) : W p l e room_1 s m [Value.ref b].toArray below meth c H locs cs ss Q (F0 m 835 ls []) := by
  have hx := hC.1
  have hb := hC.2.1
  obtain ⟨wx, wm, fo, hw, hHx, hHm, hMx, hRl, S, S', hTc, hTm, hTr⟩ := hI
  refine lv_aload_n hx hb dL_law_835 rfl (lv_at hl 2 rfl) ?_
  refine lv_aload_n hx hb dL_law_836 rfl (lv_at hl 1 rfl) ?_
  refine lv_iload hx hb dL_law_837 (lv_at hl 0 rfl) ?_
  refine lv_iconst (v := 1) hx hb dL_law_839 (by decide) ?_
  refine lv_iadd hx hb dL_law_840 ?_
  refine va_sld hx hb hX hbl hbA hw.2.2 (hi 1 (by decide) (by decide)) dL_law_841 ?_
  refine lv_topi (fun v1 ev1 => ?_)
  clear ev1
  obtain ⟨fsx, hfx⟩ := c_recv hHx hax
  obtain ⟨y9, hy9, hs9⟩ := cs_119 γ l
  cases hy9
  refine l_V 1 gw_971 gw_972 gw_973 gw_1 gw_974 hd_X11_dowry hC hw (hs9 ax wx [.ref x, .int v1] ⟨hHx, trivial, ⟨v_ref rfl hax, v_int _, trivial⟩, fun f hf => (by cases hf), fun f hf => (by cases hf)⟩) ⟨by decide, by decide⟩ ⟨by show cs + 0 ≤ 601024; omega, by show ss + 0 ≤ 7293034; omega⟩ hl.1 rfl hfx rfl rfl (Nat.le_of_ble_eq_true rfl) dL_law_842 (fun r w1 H locs hq hw => ?_)
  obtain ⟨v9, rfl⟩ := l_ri (c := cn_119) rfl hq
  have hkx := q_kp2 hHx hq.1 hq.2.2.1 (q := 1) (g := 1) (k := 1) rfl (by decide +kernel)
  have hkx2 : ∀ k, qsl2 w1 2 k = qsl2 wx 2 k := fun k => q_kp2 hHx hq.1 hq.2.2.1 (q := 2) (g := 2) (k := k) rfl (qm_no (by decide +kernel) k)
  replace hTc := cTo_keep hHx hq.1 hq.2.2.1 (by decide +kernel) hTc
  replace hHx := hq.1
  clear hq hs9 hfx
  refine W.eq (g2 := F0 m 845 ls [.int v9]) rfl ?_
  refine W.widen (k := cs) (n := ss) (Nat.le_refl _) (Nat.le_refl _) ?_
  refine lv_pop hx hb dL_law_845 rfl ?_
  clear v9
  have hw := hw.perm b_sw
  refine lv_aload_n hx hb dL_law_846 rfl (lv_at hl 3 rfl) ?_
  refine lv_aload_n hx hb dL_law_847 rfl (lv_at hl 1 rfl) ?_
  refine lv_iload hx hb dL_law_848 (lv_at hl 0 rfl) ?_
  refine lv_iconst (v := 1) hx hb dL_law_850 (by decide) ?_
  refine lv_iadd hx hb dL_law_851 ?_
  refine va_sld hx hb hX hbl hbA hw.2.2 (hi 1 (by decide) (by decide)) dL_law_852 ?_
  refine lv_topi (fun v2 ev2 => ?_)
  clear ev2
  obtain ⟨fsz, hfz⟩ := m_recv hHm ham
  obtain ⟨y8, hy8, hs8⟩ := m_up rfl (ms_283 γ l)
  cases hy8
  refine l_V 1 gw_1724 gw_1725 gw_1726 gw_15 gw_1727 hd_X12_dowry hC hw (hs8 am wm [.ref z, .int v2] ⟨hHm, hMx, ⟨v_ref rfl ham, v_int _, trivial⟩, fun f hf => (by cases hf), fun f hf => (by cases hf)⟩) ⟨by decide, by decide⟩ ⟨by show cs + 0 ≤ 601024; omega, by show ss + 0 ≤ 7293034; omega⟩ hl.1 rfl hfz rfl rfl (Nat.le_of_ble_eq_true rfl) dL_law_853 (fun r w2 H locs hq hw => ?_)
  obtain ⟨v8, rfl⟩ := l_ri (c := mn_283) rfl hq
  have hkm := q_kp2 hHm hq.1 hq.2.2.1 (q := 0) (g := 0) (k := 1) rfl (by decide +kernel)
  have hkm2 : ∀ k, qsl2 w2 1 k = qsl2 wm 1 k := fun k => q_kp2 hHm hq.1 hq.2.2.1 (q := 1) (g := 1) (k := k) rfl (qm_no (by decide +kernel) k)
  replace hTm := mTo_keep hHm hq.1 hq.2.2.1 (by decide +kernel) hTm
  replace hHm := hq.1
  replace hMx := hq.2.1
  clear hq hs8 hfz
  refine W.eq (g2 := F0 m 856 ls [.int v8]) rfl ?_
  have hw := hw.perm b_sw
  refine lv_pop hx hb dL_law_856 rfl ?_
  refine lv_goto (tgt := 1258) hx hb dL_law_857 (by decide) ?_
  exact W.widen (by show cs + 0 ≤ cs + 1; omega) (by show ss + 0 ≤ ss + 6; omega) (hk _ _ _ ⟨w1, w2, fo, hw, hHx, hHm, hMx, (lR_keep hRl hkx hkx2 hkm hkm2), S, S', hTc, hTm, hTr⟩ hl)

set_option maxHeartbeats 4000000 in
set_option maxRecDepth 100000 in
theorem lc_20 {γ : kΓ} {l : Launch} {p : Program} {e : Env} {s : State} {m : MethodId} {below : List Frame} {meth : Method} {c : Code} {A : Nat → Prop} {Q : State → Prop} {b L : Nat} {xs : Nat → Int32} {x z ou : Nat} {ax am : List Nat} {i : Int32} {cs ss : Nat} (hC : kC γ p s m [Value.ref b].toArray c code 7 RL A) (hX : va_X b L xs s s.heap) (hbl : b < s.heap.size) (hbA : ¬ A b) (hl9 : l.stackTraces = false) (hax : ax[0]? = some x) (ham : am[0]? = some z) (hi : ∀ j : Int32, 0 ≤ j → j ≤ 6 → vp_in (i + j) L) (hcs : cs + 1 ≤ 601024) (hss : ss + 6 ≤ 7293034)
    (hk : ∀ (H : Heap) (locs : List Loc) (ls : Array Slot), lIv γ A ax am ou s H locs → lv_has ls 7 [(4, .int i), (0, .ref b), (1, .ref x), (2, .ref z), (3, .ref ou)] → W p l e room_1 s m [Value.ref b].toArray below meth c H locs (cs + 1) (ss + 6) Q (F0 m 1258 ls []))
    {H : Heap} {locs : List Loc} {ls : Array Slot} (hI : lIv γ A ax am ou s H locs) (hl : lv_has ls 7 [(4, .int i), (0, .ref b), (1, .ref x), (2, .ref z), (3, .ref ou)]) : W p l e room_1 s m [Value.ref b].toArray below meth c H locs cs ss Q (F0 m 860 ls []) := by
  have hx := hC.1
  have hb := hC.2.1
  obtain ⟨wx, wm, fo, hw, hHx, hHm, hMx, hRl, S, S', hTc, hTm, hTr⟩ := hI
  refine lv_aload_n hx hb dL_law_860 rfl (lv_at hl 2 rfl) ?_
  refine lv_aload_n hx hb dL_law_861 rfl (lv_at hl 1 rfl) ?_
  refine lv_iload hx hb dL_law_862 (lv_at hl 0 rfl) ?_
  refine lv_iconst (v := 1) hx hb dL_law_864 (by decide) ?_
  refine lv_iadd hx hb dL_law_865 ?_
  refine va_sld hx hb hX hbl hbA hw.2.2 (hi 1 (by decide) (by decide)) dL_law_866 ?_
  refine lv_topi (fun v1 ev1 => ?_)
  clear ev1
  obtain ⟨fsx, hfx⟩ := c_recv hHx hax
  obtain ⟨y9, hy9, hs9⟩ := cs_146 γ l
  cases hy9
  refine l_V 1 gw_983 gw_984 gw_985 gw_1 gw_986 hd_X11_match hC hw (hs9 ax wx [.ref x, .int v1] ⟨hHx, trivial, ⟨v_ref rfl hax, v_int _, trivial⟩, fun f hf => (by cases hf), fun f hf => (by cases hf)⟩) ⟨by decide, by decide⟩ ⟨by show cs + 0 ≤ 601024; omega, by show ss + 0 ≤ 7293034; omega⟩ hl.1 rfl hfx rfl rfl (Nat.le_of_ble_eq_true rfl) dL_law_867 (fun r w1 H locs hq hw => ?_)
  obtain ⟨v9, rfl⟩ := l_ri (c := cn_146) rfl hq
  have hkx := q_kp2 hHx hq.1 hq.2.2.1 (q := 1) (g := 1) (k := 1) rfl (by decide +kernel)
  have hkx2 : ∀ k, qsl2 w1 2 k = qsl2 wx 2 k := fun k => q_kp2 hHx hq.1 hq.2.2.1 (q := 2) (g := 2) (k := k) rfl (qm_no (by decide +kernel) k)
  replace hTc := cTo_keep hHx hq.1 hq.2.2.1 (by decide +kernel) hTc
  replace hHx := hq.1
  clear hq hs9 hfx
  refine W.eq (g2 := F0 m 870 ls [.int v9]) rfl ?_
  refine W.widen (k := cs) (n := ss) (Nat.le_refl _) (Nat.le_refl _) ?_
  refine lv_pop hx hb dL_law_870 rfl ?_
  clear v9
  have hw := hw.perm b_sw
  refine lv_aload_n hx hb dL_law_871 rfl (lv_at hl 3 rfl) ?_
  refine lv_aload_n hx hb dL_law_872 rfl (lv_at hl 1 rfl) ?_
  refine lv_iload hx hb dL_law_873 (lv_at hl 0 rfl) ?_
  refine lv_iconst (v := 1) hx hb dL_law_875 (by decide) ?_
  refine lv_iadd hx hb dL_law_876 ?_
  refine va_sld hx hb hX hbl hbA hw.2.2 (hi 1 (by decide) (by decide)) dL_law_877 ?_
  refine lv_topi (fun v2 ev2 => ?_)
  clear ev2
  obtain ⟨fsz, hfz⟩ := m_recv hHm ham
  obtain ⟨y8, hy8, hs8⟩ := m_up rfl (ms_464 γ l)
  cases hy8
  refine l_V 1 gw_1744 gw_1745 gw_1746 gw_15 gw_1747 hd_X12_match hC hw (hs8 am wm [.ref z, .int v2] ⟨hHm, hMx, ⟨v_ref rfl ham, v_int _, trivial⟩, fun f hf => (by cases hf), fun f hf => (by cases hf)⟩) ⟨by decide, by decide⟩ ⟨by show cs + 0 ≤ 601024; omega, by show ss + 0 ≤ 7293034; omega⟩ hl.1 rfl hfz rfl rfl (Nat.le_of_ble_eq_true rfl) dL_law_878 (fun r w2 H locs hq hw => ?_)
  obtain ⟨v8, rfl⟩ := l_ri (c := mn_464) rfl hq
  have hkm := q_kp2 hHm hq.1 hq.2.2.1 (q := 0) (g := 0) (k := 1) rfl (by decide +kernel)
  have hkm2 : ∀ k, qsl2 w2 1 k = qsl2 wm 1 k := fun k => q_kp2 hHm hq.1 hq.2.2.1 (q := 1) (g := 1) (k := k) rfl (qm_no (by decide +kernel) k)
  replace hTm := mTo_keep hHm hq.1 hq.2.2.1 (by decide +kernel) hTm
  replace hHm := hq.1
  replace hMx := hq.2.1
  clear hq hs8 hfz
  refine W.eq (g2 := F0 m 881 ls [.int v8]) rfl ?_
  have hw := hw.perm b_sw
  refine lv_pop hx hb dL_law_881 rfl ?_
  refine lv_goto (tgt := 1258) hx hb dL_law_882 (by decide) ?_
  exact W.widen (by show cs + 0 ≤ cs + 1; omega) (by show ss + 0 ≤ ss + 6; omega) (hk _ _ _ ⟨w1, w2, fo, hw, hHx, hHm, hMx, (lR_keep hRl hkx hkx2 hkm hkm2), S, S', hTc, hTm, hTr⟩ hl)

set_option maxHeartbeats 4000000 in
set_option maxRecDepth 100000 in
theorem lc_21 {γ : kΓ} {l : Launch} {p : Program} {e : Env} {s : State} {m : MethodId} {below : List Frame} {meth : Method} {c : Code} {A : Nat → Prop} {Q : State → Prop} {b L : Nat} {xs : Nat → Int32} {x z ou : Nat} {ax am : List Nat} {i : Int32} {cs ss : Nat} (hC : kC γ p s m [Value.ref b].toArray c code 7 RL A) (hX : va_X b L xs s s.heap) (hbl : b < s.heap.size) (hbA : ¬ A b) (hl9 : l.stackTraces = false) (hax : ax[0]? = some x) (ham : am[0]? = some z) (hi : ∀ j : Int32, 0 ≤ j → j ≤ 6 → vp_in (i + j) L) (hcs : cs + 1 ≤ 601024) (hss : ss + 6 ≤ 7293034)
    (hk : ∀ (H : Heap) (locs : List Loc) (ls : Array Slot), lIv γ A ax am ou s H locs → lv_has ls 7 [(4, .int i), (0, .ref b), (1, .ref x), (2, .ref z), (3, .ref ou)] → W p l e room_1 s m [Value.ref b].toArray below meth c H locs (cs + 1) (ss + 6) Q (F0 m 1258 ls []))
    {H : Heap} {locs : List Loc} {ls : Array Slot} (hI : lIv γ A ax am ou s H locs) (hl : lv_has ls 7 [(4, .int i), (0, .ref b), (1, .ref x), (2, .ref z), (3, .ref ou)]) : W p l e room_1 s m [Value.ref b].toArray below meth c H locs cs ss Q (F0 m 885 ls []) := by
  have hx := hC.1
  have hb := hC.2.1
  obtain ⟨wx, wm, fo, hw, hHx, hHm, hMx, hRl, S, S', hTc, hTm, hTr⟩ := hI
  refine lv_aload_n hx hb dL_law_885 rfl (lv_at hl 2 rfl) ?_
  refine lv_aload_n hx hb dL_law_886 rfl (lv_at hl 1 rfl) ?_
  refine lv_iload hx hb dL_law_887 (lv_at hl 0 rfl) ?_
  refine lv_iconst (v := 1) hx hb dL_law_889 (by decide) ?_
  refine lv_iadd hx hb dL_law_890 ?_
  refine va_sld hx hb hX hbl hbA hw.2.2 (hi 1 (by decide) (by decide)) dL_law_891 ?_
  refine lv_topi (fun v1 ev1 => ?_)
  clear ev1
  refine lv_aload_n hx hb dL_law_892 rfl (lv_at hl 1 rfl) ?_
  refine lv_iload hx hb dL_law_893 (lv_at hl 0 rfl) ?_
  refine lv_iconst (v := 2) hx hb dL_law_895 (by decide) ?_
  refine lv_iadd hx hb dL_law_896 ?_
  refine va_sld hx hb hX hbl hbA hw.2.2 (hi 2 (by decide) (by decide)) dL_law_897 ?_
  refine lv_topi (fun v2 ev2 => ?_)
  clear ev2
  have hgo : ∀ w0 : Int32, (w0 = 0 ∨ w0 = 1) → W p l e room_1 s m [Value.ref b].toArray below meth c H locs cs ss Q (F0 m 906 ls [.int w0, .int v1, .ref x]) := ?_
  · refine lv_if_eq (tgt := 905) hx hb dL_law_898 (by decide) (fun _ => ?_) (fun _ => ?_)
    · refine lv_iconst (v := 0) hx hb dL_law_905 (by decide) ?_
      exact hgo 0 (.inl rfl)
    · refine lv_iconst (v := 1) hx hb dL_law_901 (by decide) ?_
      refine lv_goto (tgt := 906) hx hb dL_law_902 (by decide) ?_
      exact hgo 1 (.inr rfl)
  intro w0 h0
  obtain ⟨fsx, hfx⟩ := c_recv hHx hax
  obtain ⟨y9, hy9, hs9⟩ := cs_132 γ l
  cases hy9
  refine l_V 2 gw_998 gw_999 gw_1000 gw_1 gw_1001 hd_X11_guess hC hw (hs9 ax wx [.ref x, .int v1, .int w0] ⟨hHx, trivial, ⟨v_ref rfl hax, v_int _, v_bool h0, trivial⟩, fun f hf => (by cases hf), fun f hf => (by cases hf)⟩) ⟨by decide, by decide⟩ ⟨by show cs + 0 ≤ 601024; omega, by show ss + 0 ≤ 7293034; omega⟩ hl.1 rfl hfx rfl rfl (Nat.le_of_ble_eq_true rfl) dL_law_906 (fun r w1 H locs hq hw => ?_)
  obtain ⟨v9, rfl⟩ := l_ri (c := cn_132) rfl hq
  have hkx := q_kp2 hHx hq.1 hq.2.2.1 (q := 1) (g := 1) (k := 1) rfl (by decide +kernel)
  have hkx2 : ∀ k, qsl2 w1 2 k = qsl2 wx 2 k := fun k => q_kp2 hHx hq.1 hq.2.2.1 (q := 2) (g := 2) (k := k) rfl (qm_no (by decide +kernel) k)
  replace hTc := cTo_keep hHx hq.1 hq.2.2.1 (by decide +kernel) hTc
  replace hHx := hq.1
  clear hq hs9 hfx
  refine W.eq (g2 := F0 m 909 ls [.int v9]) rfl ?_
  refine W.widen (k := cs) (n := ss) (Nat.le_refl _) (Nat.le_refl _) ?_
  refine lv_pop hx hb dL_law_909 rfl ?_
  clear v9
  have hw := hw.perm b_sw
  refine lv_aload_n hx hb dL_law_910 rfl (lv_at hl 3 rfl) ?_
  refine lv_aload_n hx hb dL_law_911 rfl (lv_at hl 1 rfl) ?_
  refine lv_iload hx hb dL_law_912 (lv_at hl 0 rfl) ?_
  refine lv_iconst (v := 1) hx hb dL_law_914 (by decide) ?_
  refine lv_iadd hx hb dL_law_915 ?_
  refine va_sld hx hb hX hbl hbA hw.2.2 (hi 1 (by decide) (by decide)) dL_law_916 ?_
  refine lv_topi (fun v3 ev3 => ?_)
  clear ev3
  refine lv_aload_n hx hb dL_law_917 rfl (lv_at hl 1 rfl) ?_
  refine lv_iload hx hb dL_law_918 (lv_at hl 0 rfl) ?_
  refine lv_iconst (v := 2) hx hb dL_law_920 (by decide) ?_
  refine lv_iadd hx hb dL_law_921 ?_
  refine va_sld hx hb hX hbl hbA hw.2.2 (hi 2 (by decide) (by decide)) dL_law_922 ?_
  refine lv_topi (fun v4 ev4 => ?_)
  clear ev4
  clear h0 w0
  have hgo : ∀ w0 : Int32, (w0 = 0 ∨ w0 = 1) → W p l e room_1 s m [Value.ref b].toArray below meth c H locs cs ss Q (F0 m 931 ls [.int w0, .int v3, .ref z]) := ?_
  · refine lv_if_eq (tgt := 930) hx hb dL_law_923 (by decide) (fun _ => ?_) (fun _ => ?_)
    · refine lv_iconst (v := 0) hx hb dL_law_930 (by decide) ?_
      exact hgo 0 (.inl rfl)
    · refine lv_iconst (v := 1) hx hb dL_law_926 (by decide) ?_
      refine lv_goto (tgt := 931) hx hb dL_law_927 (by decide) ?_
      exact hgo 1 (.inr rfl)
  intro w0 h0
  obtain ⟨fsz, hfz⟩ := m_recv hHm ham
  obtain ⟨y8, hy8, hs8⟩ := m_up rfl (ms_341 γ l)
  cases hy8
  refine l_V 2 gw_1752 gw_1753 gw_1754 gw_15 gw_1755 hd_X12_guess hC hw (hs8 am wm [.ref z, .int v3, .int w0] ⟨hHm, hMx, ⟨v_ref rfl ham, v_int _, v_bool h0, trivial⟩, fun f hf => (by cases hf), fun f hf => (by cases hf)⟩) ⟨by decide, by decide⟩ ⟨by show cs + 0 ≤ 601024; omega, by show ss + 0 ≤ 7293034; omega⟩ hl.1 rfl hfz rfl rfl (Nat.le_of_ble_eq_true rfl) dL_law_931 (fun r w2 H locs hq hw => ?_)
  obtain ⟨v8, rfl⟩ := l_ri (c := mn_341) rfl hq
  have hkm := q_kp2 hHm hq.1 hq.2.2.1 (q := 0) (g := 0) (k := 1) rfl (by decide +kernel)
  have hkm2 : ∀ k, qsl2 w2 1 k = qsl2 wm 1 k := fun k => q_kp2 hHm hq.1 hq.2.2.1 (q := 1) (g := 1) (k := k) rfl (qm_no (by decide +kernel) k)
  replace hTm := mTo_keep hHm hq.1 hq.2.2.1 (by decide +kernel) hTm
  replace hHm := hq.1
  replace hMx := hq.2.1
  clear hq hs8 hfz
  refine W.eq (g2 := F0 m 934 ls [.int v8]) rfl ?_
  have hw := hw.perm b_sw
  refine lv_pop hx hb dL_law_934 rfl ?_
  refine lv_goto (tgt := 1258) hx hb dL_law_935 (by decide) ?_
  exact W.widen (by show cs + 0 ≤ cs + 1; omega) (by show ss + 0 ≤ ss + 6; omega) (hk _ _ _ ⟨w1, w2, fo, hw, hHx, hHm, hMx, (lR_keep hRl hkx hkx2 hkm hkm2), S, S', hTc, hTm, hTr⟩ hl)

set_option maxHeartbeats 4000000 in
set_option maxRecDepth 100000 in
theorem lc_22 {γ : kΓ} {l : Launch} {p : Program} {e : Env} {s : State} {m : MethodId} {below : List Frame} {meth : Method} {c : Code} {A : Nat → Prop} {Q : State → Prop} {b L : Nat} {xs : Nat → Int32} {x z ou : Nat} {ax am : List Nat} {i : Int32} {cs ss : Nat} (hC : kC γ p s m [Value.ref b].toArray c code 7 RL A) (hX : va_X b L xs s s.heap) (hbl : b < s.heap.size) (hbA : ¬ A b) (hl9 : l.stackTraces = false) (hax : ax[0]? = some x) (ham : am[0]? = some z) (hi : ∀ j : Int32, 0 ≤ j → j ≤ 6 → vp_in (i + j) L) (hcs : cs + 1 ≤ 601024) (hss : ss + 6 ≤ 7293034)
    (hk : ∀ (H : Heap) (locs : List Loc) (ls : Array Slot), lIv γ A ax am ou s H locs → lv_has ls 7 [(4, .int i), (0, .ref b), (1, .ref x), (2, .ref z), (3, .ref ou)] → W p l e room_1 s m [Value.ref b].toArray below meth c H locs (cs + 1) (ss + 6) Q (F0 m 1258 ls []))
    {H : Heap} {locs : List Loc} {ls : Array Slot} (hI : lIv γ A ax am ou s H locs) (hl : lv_has ls 7 [(4, .int i), (0, .ref b), (1, .ref x), (2, .ref z), (3, .ref ou)]) : W p l e room_1 s m [Value.ref b].toArray below meth c H locs cs ss Q (F0 m 938 ls []) := by
  have hx := hC.1
  have hb := hC.2.1
  obtain ⟨wx, wm, fo, hw, hHx, hHm, hMx, hRl, S, S', hTc, hTm, hTr⟩ := hI
  refine lv_aload_n hx hb dL_law_938 rfl (lv_at hl 2 rfl) ?_
  obtain ⟨fsx, hfx⟩ := c_recv hHx hax
  obtain ⟨y9, hy9, hs9⟩ := cs_106 γ l
  cases hy9
  refine l_V 0 gw_1002 gw_1003 gw_1004 gw_1 gw_1005 hd_X11_fits hC hw (hs9 ax wx [.ref x] ⟨hHx, trivial, ⟨v_ref rfl hax, trivial⟩, fun f hf => (by cases hf), fun f hf => (by cases hf)⟩) ⟨by decide, by decide⟩ ⟨by show cs + 0 ≤ 601024; omega, by show ss + 0 ≤ 7293034; omega⟩ hl.1 rfl hfx rfl rfl (Nat.le_of_ble_eq_true rfl) dL_law_939 (fun r w1 H locs hq hw => ?_)
  obtain ⟨v9, rfl⟩ := l_ri (c := cn_106) rfl hq
  have hkx := q_kp2 hHx hq.1 hq.2.2.1 (q := 1) (g := 1) (k := 1) rfl (by decide +kernel)
  have hkx2 : ∀ k, qsl2 w1 2 k = qsl2 wx 2 k := fun k => q_kp2 hHx hq.1 hq.2.2.1 (q := 2) (g := 2) (k := k) rfl (qm_no (by decide +kernel) k)
  replace hTc := cTo_keep hHx hq.1 hq.2.2.1 (by decide +kernel) hTc
  replace hHx := hq.1
  clear hq hs9 hfx
  refine W.eq (g2 := F0 m 942 ls [.int v9]) rfl ?_
  refine W.widen (k := cs) (n := ss) (Nat.le_refl _) (Nat.le_refl _) ?_
  refine lv_pop hx hb dL_law_942 rfl ?_
  clear v9
  have hw := hw.perm b_sw
  refine lv_aload_n hx hb dL_law_943 rfl (lv_at hl 3 rfl) ?_
  obtain ⟨fsz, hfz⟩ := m_recv hHm ham
  obtain ⟨y8, hy8, hs8⟩ := m_up rfl (ms_287 γ l)
  cases hy8
  refine l_V 0 gw_1756 gw_1757 gw_1758 gw_15 gw_1759 hd_X12_fits hC hw (hs8 am wm [.ref z] ⟨hHm, hMx, ⟨v_ref rfl ham, trivial⟩, fun f hf => (by cases hf), fun f hf => (by cases hf)⟩) ⟨by decide, by decide⟩ ⟨by show cs + 0 ≤ 601024; omega, by show ss + 0 ≤ 7293034; omega⟩ hl.1 rfl hfz rfl rfl (Nat.le_of_ble_eq_true rfl) dL_law_944 (fun r w2 H locs hq hw => ?_)
  obtain ⟨v8, rfl⟩ := l_ri (c := mn_287) rfl hq
  have hkm := q_kp2 hHm hq.1 hq.2.2.1 (q := 0) (g := 0) (k := 1) rfl (by decide +kernel)
  have hkm2 : ∀ k, qsl2 w2 1 k = qsl2 wm 1 k := fun k => q_kp2 hHm hq.1 hq.2.2.1 (q := 1) (g := 1) (k := k) rfl (qm_no (by decide +kernel) k)
  replace hTm := mTo_keep hHm hq.1 hq.2.2.1 (by decide +kernel) hTm
  replace hHm := hq.1
  replace hMx := hq.2.1
  clear hq hs8 hfz
  refine W.eq (g2 := F0 m 947 ls [.int v8]) rfl ?_
  have hw := hw.perm b_sw
  refine lv_pop hx hb dL_law_947 rfl ?_
  refine lv_goto (tgt := 1258) hx hb dL_law_948 (by decide) ?_
  exact W.widen (by show cs + 0 ≤ cs + 1; omega) (by show ss + 0 ≤ ss + 6; omega) (hk _ _ _ ⟨w1, w2, fo, hw, hHx, hHm, hMx, (lR_keep hRl hkx hkx2 hkm hkm2), S, S', hTc, hTm, hTr⟩ hl)

set_option maxHeartbeats 4000000 in
set_option maxRecDepth 100000 in
theorem lc_23 {γ : kΓ} {l : Launch} {p : Program} {e : Env} {s : State} {m : MethodId} {below : List Frame} {meth : Method} {c : Code} {A : Nat → Prop} {Q : State → Prop} {b L : Nat} {xs : Nat → Int32} {x z ou : Nat} {ax am : List Nat} {i : Int32} {cs ss : Nat} (hC : kC γ p s m [Value.ref b].toArray c code 7 RL A) (hX : va_X b L xs s s.heap) (hbl : b < s.heap.size) (hbA : ¬ A b) (hl9 : l.stackTraces = false) (hax : ax[0]? = some x) (ham : am[0]? = some z) (hi : ∀ j : Int32, 0 ≤ j → j ≤ 6 → vp_in (i + j) L) (hcs : cs + 1 ≤ 601024) (hss : ss + 6 ≤ 7293034)
    (hk : ∀ (H : Heap) (locs : List Loc) (ls : Array Slot), lIv γ A ax am ou s H locs → lv_has ls 7 [(4, .int i), (0, .ref b), (1, .ref x), (2, .ref z), (3, .ref ou)] → W p l e room_1 s m [Value.ref b].toArray below meth c H locs (cs + 1) (ss + 6) Q (F0 m 1258 ls []))
    {H : Heap} {locs : List Loc} {ls : Array Slot} (hI : lIv γ A ax am ou s H locs) (hl : lv_has ls 7 [(4, .int i), (0, .ref b), (1, .ref x), (2, .ref z), (3, .ref ou)]) : W p l e room_1 s m [Value.ref b].toArray below meth c H locs cs ss Q (F0 m 951 ls []) := by
  have hx := hC.1
  have hb := hC.2.1
  obtain ⟨wx, wm, fo, hw, hHx, hHm, hMx, hRl, S, S', hTc, hTm, hTr⟩ := hI
  refine lv_aload_n hx hb dL_law_951 rfl (lv_at hl 2 rfl) ?_
  obtain ⟨fsx, hfx⟩ := c_recv hHx hax
  obtain ⟨y9, hy9, hs9⟩ := cs_107 γ l
  cases hy9
  refine l_V 0 gw_1011 gw_1012 gw_1013 gw_1 gw_1014 hd_X11_ask hC hw (hs9 ax wx [.ref x] ⟨hHx, trivial, ⟨v_ref rfl hax, trivial⟩, fun f hf => (by cases hf), fun f hf => (by cases hf)⟩) ⟨by decide, by decide⟩ ⟨by show cs + 0 ≤ 601024; omega, by show ss + 0 ≤ 7293034; omega⟩ hl.1 rfl hfx rfl rfl (Nat.le_of_ble_eq_true rfl) dL_law_952 (fun r w1 H locs hq hw => ?_)
  obtain ⟨v9, rfl⟩ := l_ri (c := cn_107) rfl hq
  have hkx := q_kp2 hHx hq.1 hq.2.2.1 (q := 1) (g := 1) (k := 1) rfl (by decide +kernel)
  have hkx2 : ∀ k, qsl2 w1 2 k = qsl2 wx 2 k := fun k => q_kp2 hHx hq.1 hq.2.2.1 (q := 2) (g := 2) (k := k) rfl (qm_no (by decide +kernel) k)
  replace hTc := cTo_keep hHx hq.1 hq.2.2.1 (by decide +kernel) hTc
  replace hHx := hq.1
  clear hq hs9 hfx
  refine W.eq (g2 := F0 m 955 ls [.int v9]) rfl ?_
  refine W.widen (k := cs) (n := ss) (Nat.le_refl _) (Nat.le_refl _) ?_
  refine lv_pop hx hb dL_law_955 rfl ?_
  clear v9
  have hw := hw.perm b_sw
  refine lv_aload_n hx hb dL_law_956 rfl (lv_at hl 3 rfl) ?_
  obtain ⟨fsz, hfz⟩ := m_recv hHm ham
  obtain ⟨y8, hy8, hs8⟩ := m_up rfl (ms_73 γ l)
  cases hy8
  refine l_V 0 gw_1764 gw_1765 gw_1766 gw_15 gw_1767 hd_X12_ask hC hw (hs8 am wm [.ref z] ⟨hHm, hMx, ⟨v_ref rfl ham, trivial⟩, fun f hf => (by cases hf), fun f hf => (by cases hf)⟩) ⟨by decide, by decide⟩ ⟨by show cs + 0 ≤ 601024; omega, by show ss + 0 ≤ 7293034; omega⟩ hl.1 rfl hfz rfl rfl (Nat.le_of_ble_eq_true rfl) dL_law_957 (fun r w2 H locs hq hw => ?_)
  obtain ⟨v8, rfl⟩ := l_ri (c := mn_73) rfl hq
  have hkm := q_kp2 hHm hq.1 hq.2.2.1 (q := 0) (g := 0) (k := 1) rfl (by decide +kernel)
  have hkm2 : ∀ k, qsl2 w2 1 k = qsl2 wm 1 k := fun k => q_kp2 hHm hq.1 hq.2.2.1 (q := 1) (g := 1) (k := k) rfl (qm_no (by decide +kernel) k)
  replace hTm := mTo_keep hHm hq.1 hq.2.2.1 (by decide +kernel) hTm
  replace hHm := hq.1
  replace hMx := hq.2.1
  clear hq hs8 hfz
  refine W.eq (g2 := F0 m 960 ls [.int v8]) rfl ?_
  have hw := hw.perm b_sw
  refine lv_pop hx hb dL_law_960 rfl ?_
  refine lv_goto (tgt := 1258) hx hb dL_law_961 (by decide) ?_
  exact W.widen (by show cs + 0 ≤ cs + 1; omega) (by show ss + 0 ≤ ss + 6; omega) (hk _ _ _ ⟨w1, w2, fo, hw, hHx, hHm, hMx, (lR_keep hRl hkx hkx2 hkm hkm2), S, S', hTc, hTm, hTr⟩ hl)

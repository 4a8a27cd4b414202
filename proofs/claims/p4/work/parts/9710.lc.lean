set_option maxHeartbeats 4000000 in
set_option maxRecDepth 100000 in
theorem lc_0 {γ : kΓ} {l : Launch} {p : Program} {e : Env} {s : State} {m : MethodId} {below : List Frame} {meth : Method} {c : Code} {A : Nat → Prop} {Q : State → Prop} {b L : Nat} {xs : Nat → Int32} {x z ou : Nat} {ax am : List Nat} {i : Int32} {cs ss : Nat} (hC : kC γ p s m [Value.ref b].toArray c code 7 RL A) (hX : va_X b L xs s s.heap) (hbl : b < s.heap.size) (hbA : ¬ A b) (hl9 : l.stackTraces = false) (hax : ax[0]? = some x) (ham : am[0]? = some z) (hi : ∀ j : Int32, 0 ≤ j → j ≤ 6 → vp_in (i + j) L) (hcs : cs + 1 ≤ 601024) (hss : ss + 6 ≤ 7293034)
    (hk : ∀ (H : Heap) (locs : List Loc) (ls : Array Slot), lIv γ A ax am ou s H locs → lv_has ls 7 [(4, .int i), (0, .ref b), (1, .ref x), (2, .ref z), (3, .ref ou)] → W p l e room_1 s m [Value.ref b].toArray below meth c H locs (cs + 1) (ss + 6) Q (F0 m 1258 ls []))
    {H : Heap} {locs : List Loc} {ls : Array Slot} (hI : lIv γ A ax am ou s H locs) (hl : lv_has ls 7 [(4, .int i), (0, .ref b), (1, .ref x), (2, .ref z), (3, .ref ou)]) : W p l e room_1 s m [Value.ref b].toArray below meth c H locs cs ss Q (F0 m 184 ls []) := by
  have hx := hC.1
  have hb := hC.2.1
  obtain ⟨wx, wm, fo, hw, hHx, hHm, hMx, hRl, S, S', hTc, hTm, hTr⟩ := hI
  obtain ⟨n, f, hn, hok, hs1, hs2, hc1, hc2⟩ := hRl
  refine lv_aload_n hx hb dL_law_184 rfl (lv_at hl 2 rfl) ?_
  refine lv_aload_n hx hb dL_law_185 rfl (lv_at hl 1 rfl) ?_
  refine lv_iload hx hb dL_law_186 (lv_at hl 0 rfl) ?_
  refine lv_iconst (v := 1) hx hb dL_law_188 (by decide) ?_
  refine lv_iadd hx hb dL_law_189 ?_
  refine va_sld hx hb hX hbl hbA hw.2.2 (hi 1 (by decide) (by decide)) dL_law_190 ?_
  refine lv_topi (fun v1 ev1 => ?_)
  refine lv_i2l hx hb dL_law_191 rfl ?_
  refine lv_topl (fun u2 eu2 => ?_)
  refine lv_bipush (v := 32) hx hb dL_law_192 (by decide) ?_
  refine lv_lshl hx hb dL_law_194 rfl ?_
  refine lv_topl (fun u3 eu3 => ?_)
  refine lv_aload_n hx hb dL_law_195 rfl (lv_at hl 1 rfl) ?_
  refine lv_iload hx hb dL_law_196 (lv_at hl 0 rfl) ?_
  refine lv_iconst (v := 2) hx hb dL_law_198 (by decide) ?_
  refine lv_iadd hx hb dL_law_199 ?_
  refine va_sld hx hb hX hbl hbA hw.2.2 (hi 2 (by decide) (by decide)) dL_law_200 ?_
  refine lv_topi (fun v4 ev4 => ?_)
  refine lv_i2l hx hb dL_law_201 rfl ?_
  refine lv_topl (fun u5 eu5 => ?_)
  refine k_ldc2 hC gw_1815 dL_law_202 ?_
  refine lv_land hx hb dL_law_205 ?_
  refine lv_topl (fun u6 eu6 => ?_)
  refine lv_lor hx hb dL_law_206 ?_
  refine lv_topl (fun u7 eu7 => ?_)
  refine lv_aload_n hx hb dL_law_207 rfl (lv_at hl 1 rfl) ?_
  refine lv_iload hx hb dL_law_208 (lv_at hl 0 rfl) ?_
  refine lv_iconst (v := 3) hx hb dL_law_210 (by decide) ?_
  refine lv_iadd hx hb dL_law_211 ?_
  refine va_sld hx hb hX hbl hbA hw.2.2 (hi 3 (by decide) (by decide)) dL_law_212 ?_
  refine lv_topi (fun v8 ev8 => ?_)
  refine lv_i2l hx hb dL_law_213 rfl ?_
  refine lv_topl (fun u9 eu9 => ?_)
  refine lv_bipush (v := 32) hx hb dL_law_214 (by decide) ?_
  refine lv_lshl hx hb dL_law_216 rfl ?_
  refine lv_topl (fun u10 eu10 => ?_)
  refine lv_aload_n hx hb dL_law_217 rfl (lv_at hl 1 rfl) ?_
  refine lv_iload hx hb dL_law_218 (lv_at hl 0 rfl) ?_
  refine lv_iconst (v := 4) hx hb dL_law_220 (by decide) ?_
  refine lv_iadd hx hb dL_law_221 ?_
  refine va_sld hx hb hX hbl hbA hw.2.2 (hi 4 (by decide) (by decide)) dL_law_222 ?_
  refine lv_topi (fun v11 ev11 => ?_)
  refine lv_i2l hx hb dL_law_223 rfl ?_
  refine lv_topl (fun u12 eu12 => ?_)
  refine k_ldc2 hC gw_1815 dL_law_224 ?_
  refine lv_land hx hb dL_law_227 ?_
  refine lv_topl (fun u13 eu13 => ?_)
  refine lv_lor hx hb dL_law_228 ?_
  refine lv_topl (fun u14 eu14 => ?_)
  refine lv_aload_n hx hb dL_law_229 rfl (lv_at hl 1 rfl) ?_
  refine lv_iload hx hb dL_law_230 (lv_at hl 0 rfl) ?_
  refine lv_iconst (v := 5) hx hb dL_law_232 (by decide) ?_
  refine lv_iadd hx hb dL_law_233 ?_
  refine va_sld hx hb hX hbl hbA hw.2.2 (hi 5 (by decide) (by decide)) dL_law_234 ?_
  refine lv_topi (fun v15 ev15 => ?_)
  refine lv_i2l hx hb dL_law_235 rfl ?_
  refine lv_topl (fun u16 eu16 => ?_)
  refine lv_bipush (v := 32) hx hb dL_law_236 (by decide) ?_
  refine lv_lshl hx hb dL_law_238 rfl ?_
  refine lv_topl (fun u17 eu17 => ?_)
  refine lv_aload_n hx hb dL_law_239 rfl (lv_at hl 1 rfl) ?_
  refine lv_iload hx hb dL_law_240 (lv_at hl 0 rfl) ?_
  refine lv_bipush (v := 6) hx hb dL_law_242 (by decide) ?_
  refine lv_iadd hx hb dL_law_244 ?_
  refine va_sld hx hb hX hbl hbA hw.2.2 (hi 6 (by decide) (by decide)) dL_law_245 ?_
  refine lv_topi (fun v18 ev18 => ?_)
  refine lv_i2l hx hb dL_law_246 rfl ?_
  refine lv_topl (fun u19 eu19 => ?_)
  refine k_ldc2 hC gw_1815 dL_law_247 ?_
  refine lv_land hx hb dL_law_250 ?_
  refine lv_topl (fun u20 eu20 => ?_)
  refine lv_lor hx hb dL_law_251 ?_
  refine lv_topl (fun u21 eu21 => ?_)
  obtain ⟨fsx, hfx⟩ := c_recv hHx hax
  obtain ⟨n1, f1, hn1, he1, hf1, hM1⟩ := l_feedX γ l hHx hax u7 u14 u21
  have hn9 : n1 = n := n_inj hn1 hn (Value.int.inj (Option.some.inj (he1.symm.trans hs1)))
  subst hn9
  have hg1 : ∀ k, k < n1 → f1 k = f k := fun k hk => Value.int.inj (Option.some.inj ((hf1 k (by omega)).symm.trans (hc1 k hk)))
  refine l_V 3 gw_435 gw_436 gw_437 gw_1 gw_438 hd_X11_feed hC hw hM1 ⟨by decide, by decide⟩ ⟨by show cs + 0 ≤ 601024; omega, by show ss + 0 ≤ 7293034; omega⟩ hl.1 rfl hfx rfl rfl (Nat.le_of_ble_eq_true rfl) dL_law_252 (fun r w1 H locs hq hw => ?_)
  obtain ⟨rfl, hHx9, hkx, hkx2, hKx9⟩ := hq
  replace hTc := cTo_keep hHx hHx9 hKx9 (by decide +kernel) hTc
  clear hKx9
  replace hHx := hHx9
  clear hHx9 hM1 hfx
  refine W.eq (g2 := F0 m 255 ls [.int (nI (kad u21 8 (kad u14 8 (kad u7 8 n1))))]) rfl ?_
  refine W.widen (k := cs) (n := ss) (Nat.le_refl _) (Nat.le_refl _) ?_
  have hw := hw.perm b_sw
  refine lv_pop hx hb dL_law_255 rfl ?_
  refine lv_aload_n hx hb dL_law_256 rfl (lv_at hl 3 rfl) ?_
  refine lv_aload_n hx hb dL_law_257 rfl (lv_at hl 1 rfl) ?_
  refine lv_iload hx hb dL_law_258 (lv_at hl 0 rfl) ?_
  refine lv_iconst (v := 1) hx hb dL_law_260 (by decide) ?_
  refine lv_iadd hx hb dL_law_261 ?_
  refine va_sld hx hb hX hbl hbA hw.2.2 (hi 1 (by decide) (by decide)) dL_law_262 ?_
  refine lv_topi (fun v22 ev22 => ?_)
  obtain rfl : v1 = v22 := ev1.trans ev22.symm
  refine lv_i2l hx hb dL_law_263 rfl ?_
  refine lv_topl (fun u23 eu23 => ?_)
  obtain rfl : u2 = u23 := eu2.trans eu23.symm
  refine lv_bipush (v := 32) hx hb dL_law_264 (by decide) ?_
  refine lv_lshl hx hb dL_law_266 rfl ?_
  refine lv_topl (fun u24 eu24 => ?_)
  obtain rfl : u3 = u24 := eu3.trans eu24.symm
  refine lv_aload_n hx hb dL_law_267 rfl (lv_at hl 1 rfl) ?_
  refine lv_iload hx hb dL_law_268 (lv_at hl 0 rfl) ?_
  refine lv_iconst (v := 2) hx hb dL_law_270 (by decide) ?_
  refine lv_iadd hx hb dL_law_271 ?_
  refine va_sld hx hb hX hbl hbA hw.2.2 (hi 2 (by decide) (by decide)) dL_law_272 ?_
  refine lv_topi (fun v25 ev25 => ?_)
  obtain rfl : v4 = v25 := ev4.trans ev25.symm
  refine lv_i2l hx hb dL_law_273 rfl ?_
  refine lv_topl (fun u26 eu26 => ?_)
  obtain rfl : u5 = u26 := eu5.trans eu26.symm
  refine k_ldc2 hC gw_1815 dL_law_274 ?_
  refine lv_land hx hb dL_law_277 ?_
  refine lv_topl (fun u27 eu27 => ?_)
  obtain rfl : u6 = u27 := eu6.trans eu27.symm
  refine lv_lor hx hb dL_law_278 ?_
  refine lv_topl (fun u28 eu28 => ?_)
  obtain rfl : u7 = u28 := eu7.trans eu28.symm
  refine lv_aload_n hx hb dL_law_279 rfl (lv_at hl 1 rfl) ?_
  refine lv_iload hx hb dL_law_280 (lv_at hl 0 rfl) ?_
  refine lv_iconst (v := 3) hx hb dL_law_282 (by decide) ?_
  refine lv_iadd hx hb dL_law_283 ?_
  refine va_sld hx hb hX hbl hbA hw.2.2 (hi 3 (by decide) (by decide)) dL_law_284 ?_
  refine lv_topi (fun v29 ev29 => ?_)
  obtain rfl : v8 = v29 := ev8.trans ev29.symm
  refine lv_i2l hx hb dL_law_285 rfl ?_
  refine lv_topl (fun u30 eu30 => ?_)
  obtain rfl : u9 = u30 := eu9.trans eu30.symm
  refine lv_bipush (v := 32) hx hb dL_law_286 (by decide) ?_
  refine lv_lshl hx hb dL_law_288 rfl ?_
  refine lv_topl (fun u31 eu31 => ?_)
  obtain rfl : u10 = u31 := eu10.trans eu31.symm
  refine lv_aload_n hx hb dL_law_289 rfl (lv_at hl 1 rfl) ?_
  refine lv_iload hx hb dL_law_290 (lv_at hl 0 rfl) ?_
  refine lv_iconst (v := 4) hx hb dL_law_292 (by decide) ?_
  refine lv_iadd hx hb dL_law_293 ?_
  refine va_sld hx hb hX hbl hbA hw.2.2 (hi 4 (by decide) (by decide)) dL_law_294 ?_
  refine lv_topi (fun v32 ev32 => ?_)
  obtain rfl : v11 = v32 := ev11.trans ev32.symm
  refine lv_i2l hx hb dL_law_295 rfl ?_
  refine lv_topl (fun u33 eu33 => ?_)
  obtain rfl : u12 = u33 := eu12.trans eu33.symm
  refine k_ldc2 hC gw_1815 dL_law_296 ?_
  refine lv_land hx hb dL_law_299 ?_
  refine lv_topl (fun u34 eu34 => ?_)
  obtain rfl : u13 = u34 := eu13.trans eu34.symm
  refine lv_lor hx hb dL_law_300 ?_
  refine lv_topl (fun u35 eu35 => ?_)
  obtain rfl : u14 = u35 := eu14.trans eu35.symm
  refine lv_aload_n hx hb dL_law_301 rfl (lv_at hl 1 rfl) ?_
  refine lv_iload hx hb dL_law_302 (lv_at hl 0 rfl) ?_
  refine lv_iconst (v := 5) hx hb dL_law_304 (by decide) ?_
  refine lv_iadd hx hb dL_law_305 ?_
  refine va_sld hx hb hX hbl hbA hw.2.2 (hi 5 (by decide) (by decide)) dL_law_306 ?_
  refine lv_topi (fun v36 ev36 => ?_)
  obtain rfl : v15 = v36 := ev15.trans ev36.symm
  refine lv_i2l hx hb dL_law_307 rfl ?_
  refine lv_topl (fun u37 eu37 => ?_)
  obtain rfl : u16 = u37 := eu16.trans eu37.symm
  refine lv_bipush (v := 32) hx hb dL_law_308 (by decide) ?_
  refine lv_lshl hx hb dL_law_310 rfl ?_
  refine lv_topl (fun u38 eu38 => ?_)
  obtain rfl : u17 = u38 := eu17.trans eu38.symm
  refine lv_aload_n hx hb dL_law_311 rfl (lv_at hl 1 rfl) ?_
  refine lv_iload hx hb dL_law_312 (lv_at hl 0 rfl) ?_
  refine lv_bipush (v := 6) hx hb dL_law_314 (by decide) ?_
  refine lv_iadd hx hb dL_law_316 ?_
  refine va_sld hx hb hX hbl hbA hw.2.2 (hi 6 (by decide) (by decide)) dL_law_317 ?_
  refine lv_topi (fun v39 ev39 => ?_)
  obtain rfl : v18 = v39 := ev18.trans ev39.symm
  refine lv_i2l hx hb dL_law_318 rfl ?_
  refine lv_topl (fun u40 eu40 => ?_)
  obtain rfl : u19 = u40 := eu19.trans eu40.symm
  refine k_ldc2 hC gw_1815 dL_law_319 ?_
  refine lv_land hx hb dL_law_322 ?_
  refine lv_topl (fun u41 eu41 => ?_)
  obtain rfl : u20 = u41 := eu20.trans eu41.symm
  refine lv_lor hx hb dL_law_323 ?_
  refine lv_topl (fun u42 eu42 => ?_)
  obtain rfl : u21 = u42 := eu21.trans eu42.symm
  obtain ⟨fsz, hfz⟩ := m_recv hHm ham
  obtain ⟨n2, f2, hn2, he2, hf2, hM2⟩ := l_feedM γ l hHm hMx ham u7 u14 u21
  have hn12 : n2 = n1 := n_inj hn2 hn1 (Value.int.inj (Option.some.inj (he2.symm.trans hs2)))
  subst hn12
  have hg2 : ∀ k, k < n2 → f2 k = f k := fun k hk => Value.int.inj (Option.some.inj ((hf2 k (by omega)).symm.trans (hc2 k hk)))
  refine l_V 3 gw_1385 gw_1386 gw_1387 gw_15 gw_1388 hd_X12_feed hC hw hM2 ⟨by decide, by decide⟩ ⟨by show cs + 0 ≤ 601024; omega, by show ss + 0 ≤ 7293034; omega⟩ hl.1 rfl hfz rfl rfl (Nat.le_of_ble_eq_true rfl) dL_law_324 (fun r w2 H locs hq hw => ?_)
  obtain ⟨rfl, hHm9, hMx9, hkm, hkm2, hKm9⟩ := hq
  replace hTm := mTo_keep hHm hHm9 hKm9 (by decide +kernel) hTm
  clear hKm9
  replace hHm := hHm9
  replace hMx := hMx9
  clear hHm9 hMx9 hM2 hfz
  refine W.eq (g2 := F0 m 327 ls [.int (nI (kad u21 8 (kad u14 8 (kad u7 8 n2))))]) rfl ?_
  refine W.widen (k := cs) (n := ss) (Nat.le_refl _) (Nat.le_refl _) ?_
  refine lv_pop hx hb dL_law_327 rfl ?_
  have hw := hw.perm b_sw
  refine lv_goto (tgt := 1258) hx hb dL_law_328 (by decide) ?_
  exact W.widen (by show cs + 0 ≤ cs + 1; omega) (by show ss + 0 ≤ ss + 6; omega) (hk _ _ _ ⟨w1, w2, fo, hw, hHx, hHm, hMx, lR_feed u7 u14 u21 hn hok hg1 hg2 hkx hkx2 hkm hkm2, S, S', hTc, hTm, hTr⟩ hl)

set_option maxHeartbeats 4000000 in
set_option maxRecDepth 100000 in
theorem lc_1 {γ : kΓ} {l : Launch} {p : Program} {e : Env} {s : State} {m : MethodId} {below : List Frame} {meth : Method} {c : Code} {A : Nat → Prop} {Q : State → Prop} {b L : Nat} {xs : Nat → Int32} {x z ou : Nat} {ax am : List Nat} {i : Int32} {cs ss : Nat} (hC : kC γ p s m [Value.ref b].toArray c code 7 RL A) (hX : va_X b L xs s s.heap) (hbl : b < s.heap.size) (hbA : ¬ A b) (hl9 : l.stackTraces = false) (hax : ax[0]? = some x) (ham : am[0]? = some z) (hi : ∀ j : Int32, 0 ≤ j → j ≤ 6 → vp_in (i + j) L) (hcs : cs + 1 ≤ 601024) (hss : ss + 6 ≤ 7293034)
    (hk : ∀ (H : Heap) (locs : List Loc) (ls : Array Slot), lIv γ A ax am ou s H locs → lv_has ls 7 [(4, .int i), (0, .ref b), (1, .ref x), (2, .ref z), (3, .ref ou)] → W p l e room_1 s m [Value.ref b].toArray below meth c H locs (cs + 1) (ss + 6) Q (F0 m 1258 ls []))
    {H : Heap} {locs : List Loc} {ls : Array Slot} (hI : lIv γ A ax am ou s H locs) (hl : lv_has ls 7 [(4, .int i), (0, .ref b), (1, .ref x), (2, .ref z), (3, .ref ou)]) : W p l e room_1 s m [Value.ref b].toArray below meth c H locs cs ss Q (F0 m 331 ls []) := by
  have hx := hC.1
  have hb := hC.2.1
  obtain ⟨wx, wm, fo, hw, hHx, hHm, hMx, hRl, S, S', hTc, hTm, hTr⟩ := hI
  refine lv_aload_n hx hb dL_law_331 rfl (lv_at hl 2 rfl) ?_
  obtain ⟨n, f, hn, hok, hs1, hs2, hc1, hc2⟩ := hRl
  obtain ⟨fsx, hfx⟩ := c_recv hHx hax
  have hM1 := ab_class2 γ l hn hok hHx hax ⟨hs1, hc1⟩ hTc
  refine l_V 0 gw_443 gw_444 gw_445 gw_1 gw_446 hd_X11_abbey hC hw hM1 ⟨by decide, by decide⟩ ⟨by show cs + 0 ≤ 601024; omega, by show ss + 0 ≤ 7293034; omega⟩ hl.1 rfl hfx rfl rfl (Nat.le_of_ble_eq_true rfl) dL_law_332 (fun r w1 H locs hq hw => ?_)
  obtain ⟨rfl, hHx9, hkx, hA0, hA1⟩ := hq
  replace hHx := hHx9
  clear hHx9
  clear hM1 hfx
  refine W.eq (g2 := F0 m 335 ls [.int (fvA f n)]) rfl ?_
  refine W.widen (k := cs) (n := ss) (Nat.le_refl _) (Nat.le_refl _) ?_
  have hw := hw.perm b_sw
  refine lv_pop hx hb dL_law_335 rfl ?_
  refine lv_aload_n hx hb dL_law_336 rfl (lv_at hl 3 rfl) ?_
  obtain ⟨fsz, hfz⟩ := m_recv hHm ham
  have hM2 := ab_model2 γ l hn hHm hMx ham ⟨hs2, hc2⟩ hTm
  refine l_V 0 gw_1390 gw_1391 gw_1392 gw_15 gw_1393 hd_X12_abbey hC hw hM2 ⟨by decide, by decide⟩ ⟨by show cs + 0 ≤ 601024; omega, by show ss + 0 ≤ 7293034; omega⟩ hl.1 rfl hfz rfl rfl (Nat.le_of_ble_eq_true rfl) dL_law_337 (fun r w2 H locs hq hw => ?_)
  obtain ⟨rfl, hHm9, hMx9, hkm, hB0, hB1⟩ := hq
  replace hHm := hHm9
  replace hMx := hMx9
  clear hHm9 hMx9
  have hTl : lT w1 w2 := by
    by_cases h : fvA f n = 0
    · obtain ⟨a0, f0, t5, t6, g1, g2⟩ := hA1 h
      obtain ⟨b', g3, g4⟩ := hB1 h
      exact lT_read hn g1 g3 h g2 g4
    · exact ⟨S, S', hA0 h, hB0 h, hTr⟩
  clear hM2 hfz
  refine W.eq (g2 := F0 m 340 ls [.int (fvA f n)]) rfl ?_
  refine W.widen (k := cs) (n := ss) (Nat.le_refl _) (Nat.le_refl _) ?_
  refine lv_pop hx hb dL_law_340 rfl ?_
  have hw := hw.perm b_sw
  refine lv_goto (tgt := 1258) hx hb dL_law_341 (by decide) ?_
  exact W.widen (by show cs + 0 ≤ cs + 1; omega) (by show ss + 0 ≤ ss + 6; omega) (hk _ _ _ ⟨w1, w2, fo, hw, hHx, hHm, hMx, lR_zero hkx hkm, hTl⟩ hl)

set_option maxHeartbeats 4000000 in
set_option maxRecDepth 100000 in
theorem lc_2 {γ : kΓ} {l : Launch} {p : Program} {e : Env} {s : State} {m : MethodId} {below : List Frame} {meth : Method} {c : Code} {A : Nat → Prop} {Q : State → Prop} {b L : Nat} {xs : Nat → Int32} {x z ou : Nat} {ax am : List Nat} {i : Int32} {cs ss : Nat} (hC : kC γ p s m [Value.ref b].toArray c code 7 RL A) (hX : va_X b L xs s s.heap) (hbl : b < s.heap.size) (hbA : ¬ A b) (hl9 : l.stackTraces = false) (hax : ax[0]? = some x) (ham : am[0]? = some z) (hi : ∀ j : Int32, 0 ≤ j → j ≤ 6 → vp_in (i + j) L) (hcs : cs + 1 ≤ 601024) (hss : ss + 6 ≤ 7293034)
    (hk : ∀ (H : Heap) (locs : List Loc) (ls : Array Slot), lIv γ A ax am ou s H locs → lv_has ls 7 [(4, .int i), (0, .ref b), (1, .ref x), (2, .ref z), (3, .ref ou)] → W p l e room_1 s m [Value.ref b].toArray below meth c H locs (cs + 1) (ss + 6) Q (F0 m 1258 ls []))
    {H : Heap} {locs : List Loc} {ls : Array Slot} (hI : lIv γ A ax am ou s H locs) (hl : lv_has ls 7 [(4, .int i), (0, .ref b), (1, .ref x), (2, .ref z), (3, .ref ou)]) : W p l e room_1 s m [Value.ref b].toArray below meth c H locs cs ss Q (F0 m 344 ls []) := by
  have hx := hC.1
  have hb := hC.2.1
  obtain ⟨wx, wm, fo, hw, hHx, hHm, hMx, hRl, S, S', hTc, hTm, hTr⟩ := hI
  refine lv_aload_n hx hb dL_law_344 rfl (lv_at hl 2 rfl) ?_
  obtain ⟨n, f, hn, hok, hs1, hs2, hc1, hc2⟩ := hRl
  obtain ⟨fsx, hfx⟩ := c_recv hHx hax
  have hM1 := l_yearsX γ l hn hok hHx hax ⟨hs1, hc1⟩ hTc
  refine l_V 0 gw_660 gw_661 gw_662 gw_1 gw_663 hd_X11_years hC hw hM1 ⟨by decide, by decide⟩ ⟨by show cs + 0 ≤ 601024; omega, by show ss + 0 ≤ 7293034; omega⟩ hl.1 rfl hfx rfl rfl (Nat.le_of_ble_eq_true rfl) dL_law_345 (fun r w1 H locs hq hw => ?_)
  obtain ⟨⟨v9, rfl, hY9⟩, hHx9, hKx, hkx⟩ := hq
  replace hTc := cTo_keep hHx hHx9 hKx (by decide +kernel) hTc
  replace hHx := hHx9
  clear hHx9 hKx
  clear hM1 hfx
  refine W.eq (g2 := F0 m 348 ls [.int v9]) rfl ?_
  refine W.widen (k := cs) (n := ss) (Nat.le_refl _) (Nat.le_refl _) ?_
  have hw := hw.perm b_sw
  refine lv_aload_n hx hb dL_law_348 rfl (lv_at hl 3 rfl) ?_
  obtain ⟨fsz, hfz⟩ := m_recv hHm ham
  have hM2 := l_yearsM γ l hn hHm hMx ham ⟨hs2, hc2⟩ hTm hTr
  refine l_V 0 gw_1529 gw_1530 gw_1531 gw_15 gw_1532 hd_X12_years hC hw hM2 ⟨by decide, by decide⟩ ⟨by show cs + 0 ≤ 601024; omega, by show ss + 0 ≤ 7293034; omega⟩ hl.1 rfl hfz rfl rfl (Nat.le_of_ble_eq_true rfl) dL_law_349 (fun r w2 H locs hq hw => ?_)
  obtain ⟨⟨v8, rfl, hY8⟩, hHm9, hMx9, hKm, hkm⟩ := hq
  replace hTm := mTo_keep hHm hHm9 hKm (by decide +kernel) hTm
  replace hHm := hHm9
  replace hMx := hMx9
  clear hHm9 hMx9 hKm
  have e89 : v8 = v9 := y_eq hn hTr hY9 hY8
  subst v8
  clear hM2 hfz
  refine W.eq (g2 := F0 m 352 ls [.int v9, .int v9]) rfl ?_
  refine W.widen (k := cs) (n := ss) (Nat.le_refl _) (Nat.le_refl _) ?_
  refine lv_icmp_eq (tgt := 1258) hx hb dL_law_352 (by decide) (fun _ => ?_) (fun h => absurd rfl h)
  have hw := hw.perm b_sw
  exact W.widen (by show cs + 0 ≤ cs + 1; omega) (by show ss + 0 ≤ ss + 6; omega) (hk _ _ _ ⟨w1, w2, fo, hw, hHx, hHm, hMx, lR_zero hkx hkm, S, S', hTc, hTm, hTr⟩ hl)

set_option maxHeartbeats 4000000 in
set_option maxRecDepth 100000 in
theorem lc_3 {γ : kΓ} {l : Launch} {p : Program} {e : Env} {s : State} {m : MethodId} {below : List Frame} {meth : Method} {c : Code} {A : Nat → Prop} {Q : State → Prop} {b L : Nat} {xs : Nat → Int32} {x z ou : Nat} {ax am : List Nat} {i : Int32} {cs ss : Nat} (hC : kC γ p s m [Value.ref b].toArray c code 7 RL A) (hX : va_X b L xs s s.heap) (hbl : b < s.heap.size) (hbA : ¬ A b) (hl9 : l.stackTraces = false) (hax : ax[0]? = some x) (ham : am[0]? = some z) (hi : ∀ j : Int32, 0 ≤ j → j ≤ 6 → vp_in (i + j) L) (hcs : cs + 1 ≤ 601024) (hss : ss + 6 ≤ 7293034)
    (hk : ∀ (H : Heap) (locs : List Loc) (ls : Array Slot), lIv γ A ax am ou s H locs → lv_has ls 7 [(4, .int i), (0, .ref b), (1, .ref x), (2, .ref z), (3, .ref ou)] → W p l e room_1 s m [Value.ref b].toArray below meth c H locs (cs + 1) (ss + 6) Q (F0 m 1258 ls []))
    {H : Heap} {locs : List Loc} {ls : Array Slot} (hI : lIv γ A ax am ou s H locs) (hl : lv_has ls 7 [(4, .int i), (0, .ref b), (1, .ref x), (2, .ref z), (3, .ref ou)]) : W p l e room_1 s m [Value.ref b].toArray below meth c H locs cs ss Q (F0 m 357 ls []) := by
  have hx := hC.1
  have hb := hC.2.1
  obtain ⟨wx, wm, fo, hw, hHx, hHm, hMx, hRl, S, S', hTc, hTm, hTr⟩ := hI
  refine lv_aload_n hx hb dL_law_357 rfl (lv_at hl 2 rfl) ?_
  refine lv_aload_n hx hb dL_law_358 rfl (lv_at hl 1 rfl) ?_
  refine lv_iload hx hb dL_law_359 (lv_at hl 0 rfl) ?_
  refine lv_iconst (v := 1) hx hb dL_law_361 (by decide) ?_
  refine lv_iadd hx hb dL_law_362 ?_
  refine va_sld hx hb hX hbl hbA hw.2.2 (hi 1 (by decide) (by decide)) dL_law_363 ?_
  refine lv_topi (fun v1 ev1 => ?_)
  clear ev1
  refine lv_aload_n hx hb dL_law_364 rfl (lv_at hl 1 rfl) ?_
  refine lv_iload hx hb dL_law_365 (lv_at hl 0 rfl) ?_
  refine lv_iconst (v := 2) hx hb dL_law_367 (by decide) ?_
  refine lv_iadd hx hb dL_law_368 ?_
  refine va_sld hx hb hX hbl hbA hw.2.2 (hi 2 (by decide) (by decide)) dL_law_369 ?_
  refine lv_topi (fun v2 ev2 => ?_)
  clear ev2
  obtain ⟨fsx, hfx⟩ := c_recv hHx hax
  obtain ⟨y9, hy9, hs9⟩ := cs_170 γ l
  cases hy9
  refine l_V 2 gw_693 gw_694 gw_695 gw_1 gw_696 hd_X11_thought hC hw (hs9 ax wx [.ref x, .int v1, .int v2] ⟨hHx, trivial, ⟨v_ref rfl hax, v_int _, v_int _, trivial⟩, fun f hf => (by cases hf), fun f hf => (by cases hf)⟩) ⟨by decide, by decide⟩ ⟨by show cs + 0 ≤ 601024; omega, by show ss + 0 ≤ 7293034; omega⟩ hl.1 rfl hfx rfl rfl (Nat.le_of_ble_eq_true rfl) dL_law_370 (fun r w1 H locs hq hw => ?_)
  obtain ⟨v9, rfl⟩ := l_ri (c := cn_170) rfl hq
  have hkx := q_kp2 hHx hq.1 hq.2.2.1 (q := 1) (g := 1) (k := 1) rfl (by decide +kernel)
  have hkx2 : ∀ k, qsl2 w1 2 k = qsl2 wx 2 k := fun k => q_kp2 hHx hq.1 hq.2.2.1 (q := 2) (g := 2) (k := k) rfl (qm_no (by decide +kernel) k)
  replace hTc := cTo_keep hHx hq.1 hq.2.2.1 (by decide +kernel) hTc
  replace hHx := hq.1
  clear hq hs9 hfx
  refine W.eq (g2 := F0 m 373 ls [.int v9]) rfl ?_
  refine W.widen (k := cs) (n := ss) (Nat.le_refl _) (Nat.le_refl _) ?_
  refine lv_pop hx hb dL_law_373 rfl ?_
  clear v9
  have hw := hw.perm b_sw
  refine lv_aload_n hx hb dL_law_374 rfl (lv_at hl 3 rfl) ?_
  refine lv_aload_n hx hb dL_law_375 rfl (lv_at hl 1 rfl) ?_
  refine lv_iload hx hb dL_law_376 (lv_at hl 0 rfl) ?_
  refine lv_iconst (v := 1) hx hb dL_law_378 (by decide) ?_
  refine lv_iadd hx hb dL_law_379 ?_
  refine va_sld hx hb hX hbl hbA hw.2.2 (hi 1 (by decide) (by decide)) dL_law_380 ?_
  refine lv_topi (fun v3 ev3 => ?_)
  clear ev3
  refine lv_aload_n hx hb dL_law_381 rfl (lv_at hl 1 rfl) ?_
  refine lv_iload hx hb dL_law_382 (lv_at hl 0 rfl) ?_
  refine lv_iconst (v := 2) hx hb dL_law_384 (by decide) ?_
  refine lv_iadd hx hb dL_law_385 ?_
  refine va_sld hx hb hX hbl hbA hw.2.2 (hi 2 (by decide) (by decide)) dL_law_386 ?_
  refine lv_topi (fun v4 ev4 => ?_)
  clear ev4
  obtain ⟨fsz, hfz⟩ := m_recv hHm ham
  obtain ⟨y8, hy8, hs8⟩ := m_up rfl (ms_523 γ l)
  cases hy8
  refine l_V 2 gw_1541 gw_1542 gw_1543 gw_15 gw_1544 hd_X12_thought hC hw (hs8 am wm [.ref z, .int v3, .int v4] ⟨hHm, hMx, ⟨v_ref rfl ham, v_int _, v_int _, trivial⟩, fun f hf => (by cases hf), fun f hf => (by cases hf)⟩) ⟨by decide, by decide⟩ ⟨by show cs + 0 ≤ 601024; omega, by show ss + 0 ≤ 7293034; omega⟩ hl.1 rfl hfz rfl rfl (Nat.le_of_ble_eq_true rfl) dL_law_387 (fun r w2 H locs hq hw => ?_)
  obtain ⟨v8, rfl⟩ := l_ri (c := mn_523) rfl hq
  have hkm := q_kp2 hHm hq.1 hq.2.2.1 (q := 0) (g := 0) (k := 1) rfl (by decide +kernel)
  have hkm2 : ∀ k, qsl2 w2 1 k = qsl2 wm 1 k := fun k => q_kp2 hHm hq.1 hq.2.2.1 (q := 1) (g := 1) (k := k) rfl (qm_no (by decide +kernel) k)
  replace hTm := mTo_keep hHm hq.1 hq.2.2.1 (by decide +kernel) hTm
  replace hHm := hq.1
  replace hMx := hq.2.1
  clear hq hs8 hfz
  refine W.eq (g2 := F0 m 390 ls [.int v8]) rfl ?_
  have hw := hw.perm b_sw
  refine lv_pop hx hb dL_law_390 rfl ?_
  refine lv_goto (tgt := 1258) hx hb dL_law_391 (by decide) ?_
  exact W.widen (by show cs + 0 ≤ cs + 1; omega) (by show ss + 0 ≤ ss + 6; omega) (hk _ _ _ ⟨w1, w2, fo, hw, hHx, hHm, hMx, (lR_keep hRl hkx hkx2 hkm hkm2), S, S', hTc, hTm, hTr⟩ hl)

set_option maxHeartbeats 4000000 in
set_option maxRecDepth 100000 in
theorem lc_4 {γ : kΓ} {l : Launch} {p : Program} {e : Env} {s : State} {m : MethodId} {below : List Frame} {meth : Method} {c : Code} {A : Nat → Prop} {Q : State → Prop} {b L : Nat} {xs : Nat → Int32} {x z ou : Nat} {ax am : List Nat} {i : Int32} {cs ss : Nat} (hC : kC γ p s m [Value.ref b].toArray c code 7 RL A) (hX : va_X b L xs s s.heap) (hbl : b < s.heap.size) (hbA : ¬ A b) (hl9 : l.stackTraces = false) (hax : ax[0]? = some x) (ham : am[0]? = some z) (hi : ∀ j : Int32, 0 ≤ j → j ≤ 6 → vp_in (i + j) L) (hcs : cs + 1 ≤ 601024) (hss : ss + 6 ≤ 7293034)
    (hk : ∀ (H : Heap) (locs : List Loc) (ls : Array Slot), lIv γ A ax am ou s H locs → lv_has ls 7 [(4, .int i), (0, .ref b), (1, .ref x), (2, .ref z), (3, .ref ou)] → W p l e room_1 s m [Value.ref b].toArray below meth c H locs (cs + 1) (ss + 6) Q (F0 m 1258 ls []))
    {H : Heap} {locs : List Loc} {ls : Array Slot} (hI : lIv γ A ax am ou s H locs) (hl : lv_has ls 7 [(4, .int i), (0, .ref b), (1, .ref x), (2, .ref z), (3, .ref ou)]) : W p l e room_1 s m [Value.ref b].toArray below meth c H locs cs ss Q (F0 m 394 ls []) := by
  have hx := hC.1
  have hb := hC.2.1
  obtain ⟨wx, wm, fo, hw, hHx, hHm, hMx, hRl, S, S', hTc, hTm, hTr⟩ := hI
  refine lv_aload_n hx hb dL_law_394 rfl (lv_at hl 2 rfl) ?_
  refine lv_aload_n hx hb dL_law_395 rfl (lv_at hl 1 rfl) ?_
  refine lv_iload hx hb dL_law_396 (lv_at hl 0 rfl) ?_
  refine lv_iconst (v := 1) hx hb dL_law_398 (by decide) ?_
  refine lv_iadd hx hb dL_law_399 ?_
  refine va_sld hx hb hX hbl hbA hw.2.2 (hi 1 (by decide) (by decide)) dL_law_400 ?_
  refine lv_topi (fun v1 ev1 => ?_)
  clear ev1
  refine lv_aload_n hx hb dL_law_401 rfl (lv_at hl 1 rfl) ?_
  refine lv_iload hx hb dL_law_402 (lv_at hl 0 rfl) ?_
  refine lv_iconst (v := 2) hx hb dL_law_404 (by decide) ?_
  refine lv_iadd hx hb dL_law_405 ?_
  refine va_sld hx hb hX hbl hbA hw.2.2 (hi 2 (by decide) (by decide)) dL_law_406 ?_
  refine lv_topi (fun v2 ev2 => ?_)
  clear ev2
  obtain ⟨fsx, hfx⟩ := c_recv hHx hax
  obtain ⟨y9, hy9, hs9⟩ := cs_168 γ l
  cases hy9
  refine l_V 2 gw_701 gw_702 gw_703 gw_1 gw_704 hd_X11_tenant hC hw (hs9 ax wx [.ref x, .int v1, .int v2] ⟨hHx, trivial, ⟨v_ref rfl hax, v_int _, v_int _, trivial⟩, fun f hf => (by cases hf), fun f hf => (by cases hf)⟩) ⟨by decide, by decide⟩ ⟨by show cs + 0 ≤ 601024; omega, by show ss + 0 ≤ 7293034; omega⟩ hl.1 rfl hfx rfl rfl (Nat.le_of_ble_eq_true rfl) dL_law_407 (fun r w1 H locs hq hw => ?_)
  obtain ⟨v9, rfl⟩ := l_ri (c := cn_168) rfl hq
  have hkx := q_kp2 hHx hq.1 hq.2.2.1 (q := 1) (g := 1) (k := 1) rfl (by decide +kernel)
  have hkx2 : ∀ k, qsl2 w1 2 k = qsl2 wx 2 k := fun k => q_kp2 hHx hq.1 hq.2.2.1 (q := 2) (g := 2) (k := k) rfl (qm_no (by decide +kernel) k)
  replace hTc := cTo_keep hHx hq.1 hq.2.2.1 (by decide +kernel) hTc
  replace hHx := hq.1
  clear hq hs9 hfx
  refine W.eq (g2 := F0 m 410 ls [.int v9]) rfl ?_
  refine W.widen (k := cs) (n := ss) (Nat.le_refl _) (Nat.le_refl _) ?_
  refine lv_pop hx hb dL_law_410 rfl ?_
  clear v9
  have hw := hw.perm b_sw
  refine lv_aload_n hx hb dL_law_411 rfl (lv_at hl 3 rfl) ?_
  refine lv_aload_n hx hb dL_law_412 rfl (lv_at hl 1 rfl) ?_
  refine lv_iload hx hb dL_law_413 (lv_at hl 0 rfl) ?_
  refine lv_iconst (v := 1) hx hb dL_law_415 (by decide) ?_
  refine lv_iadd hx hb dL_law_416 ?_
  refine va_sld hx hb hX hbl hbA hw.2.2 (hi 1 (by decide) (by decide)) dL_law_417 ?_
  refine lv_topi (fun v3 ev3 => ?_)
  clear ev3
  refine lv_aload_n hx hb dL_law_418 rfl (lv_at hl 1 rfl) ?_
  refine lv_iload hx hb dL_law_419 (lv_at hl 0 rfl) ?_
  refine lv_iconst (v := 2) hx hb dL_law_421 (by decide) ?_
  refine lv_iadd hx hb dL_law_422 ?_
  refine va_sld hx hb hX hbl hbA hw.2.2 (hi 2 (by decide) (by decide)) dL_law_423 ?_
  refine lv_topi (fun v4 ev4 => ?_)
  clear ev4
  obtain ⟨fsz, hfz⟩ := m_recv hHm ham
  obtain ⟨y8, hy8, hs8⟩ := m_up rfl (ms_521 γ l)
  cases hy8
  refine l_V 2 gw_1549 gw_1550 gw_1551 gw_15 gw_1552 hd_X12_tenant hC hw (hs8 am wm [.ref z, .int v3, .int v4] ⟨hHm, hMx, ⟨v_ref rfl ham, v_int _, v_int _, trivial⟩, fun f hf => (by cases hf), fun f hf => (by cases hf)⟩) ⟨by decide, by decide⟩ ⟨by show cs + 0 ≤ 601024; omega, by show ss + 0 ≤ 7293034; omega⟩ hl.1 rfl hfz rfl rfl (Nat.le_of_ble_eq_true rfl) dL_law_424 (fun r w2 H locs hq hw => ?_)
  obtain ⟨v8, rfl⟩ := l_ri (c := mn_521) rfl hq
  have hkm := q_kp2 hHm hq.1 hq.2.2.1 (q := 0) (g := 0) (k := 1) rfl (by decide +kernel)
  have hkm2 : ∀ k, qsl2 w2 1 k = qsl2 wm 1 k := fun k => q_kp2 hHm hq.1 hq.2.2.1 (q := 1) (g := 1) (k := k) rfl (qm_no (by decide +kernel) k)
  replace hTm := mTo_keep hHm hq.1 hq.2.2.1 (by decide +kernel) hTm
  replace hHm := hq.1
  replace hMx := hq.2.1
  clear hq hs8 hfz
  refine W.eq (g2 := F0 m 427 ls [.int v8]) rfl ?_
  have hw := hw.perm b_sw
  refine lv_pop hx hb dL_law_427 rfl ?_
  refine lv_goto (tgt := 1258) hx hb dL_law_428 (by decide) ?_
  exact W.widen (by show cs + 0 ≤ cs + 1; omega) (by show ss + 0 ≤ ss + 6; omega) (hk _ _ _ ⟨w1, w2, fo, hw, hHx, hHm, hMx, (lR_keep hRl hkx hkx2 hkm hkm2), S, S', hTc, hTm, hTr⟩ hl)

set_option maxHeartbeats 4000000 in
set_option maxRecDepth 100000 in
theorem lc_5 {γ : kΓ} {l : Launch} {p : Program} {e : Env} {s : State} {m : MethodId} {below : List Frame} {meth : Method} {c : Code} {A : Nat → Prop} {Q : State → Prop} {b L : Nat} {xs : Nat → Int32} {x z ou : Nat} {ax am : List Nat} {i : Int32} {cs ss : Nat} (hC : kC γ p s m [Value.ref b].toArray c code 7 RL A) (hX : va_X b L xs s s.heap) (hbl : b < s.heap.size) (hbA : ¬ A b) (hl9 : l.stackTraces = false) (hax : ax[0]? = some x) (ham : am[0]? = some z) (hi : ∀ j : Int32, 0 ≤ j → j ≤ 6 → vp_in (i + j) L) (hcs : cs + 1 ≤ 601024) (hss : ss + 6 ≤ 7293034)
    (hk : ∀ (H : Heap) (locs : List Loc) (ls : Array Slot), lIv γ A ax am ou s H locs → lv_has ls 7 [(4, .int i), (0, .ref b), (1, .ref x), (2, .ref z), (3, .ref ou)] → W p l e room_1 s m [Value.ref b].toArray below meth c H locs (cs + 1) (ss + 6) Q (F0 m 1258 ls []))
    {H : Heap} {locs : List Loc} {ls : Array Slot} (hI : lIv γ A ax am ou s H locs) (hl : lv_has ls 7 [(4, .int i), (0, .ref b), (1, .ref x), (2, .ref z), (3, .ref ou)]) : W p l e room_1 s m [Value.ref b].toArray below meth c H locs cs ss Q (F0 m 431 ls []) := by
  have hx := hC.1
  have hb := hC.2.1
  obtain ⟨wx, wm, fo, hw, hHx, hHm, hMx, hRl, S, S', hTc, hTm, hTr⟩ := hI
  refine lv_aload_n hx hb dL_law_431 rfl (lv_at hl 2 rfl) ?_
  refine lv_aload_n hx hb dL_law_432 rfl (lv_at hl 1 rfl) ?_
  refine lv_iload hx hb dL_law_433 (lv_at hl 0 rfl) ?_
  refine lv_iconst (v := 1) hx hb dL_law_435 (by decide) ?_
  refine lv_iadd hx hb dL_law_436 ?_
  refine va_sld hx hb hX hbl hbA hw.2.2 (hi 1 (by decide) (by decide)) dL_law_437 ?_
  refine lv_topi (fun v1 ev1 => ?_)
  clear ev1
  refine lv_aload_n hx hb dL_law_438 rfl (lv_at hl 1 rfl) ?_
  refine lv_iload hx hb dL_law_439 (lv_at hl 0 rfl) ?_
  refine lv_iconst (v := 2) hx hb dL_law_441 (by decide) ?_
  refine lv_iadd hx hb dL_law_442 ?_
  refine va_sld hx hb hX hbl hbA hw.2.2 (hi 2 (by decide) (by decide)) dL_law_443 ?_
  refine lv_topi (fun v2 ev2 => ?_)
  clear ev2
  obtain ⟨fsx, hfx⟩ := c_recv hHx hax
  obtain ⟨y9, hy9, hs9⟩ := cs_136 γ l
  cases hy9
  refine l_V 2 gw_727 gw_728 gw_729 gw_1 gw_730 hd_X11_keeps hC hw (hs9 ax wx [.ref x, .int v1, .int v2] ⟨hHx, trivial, ⟨v_ref rfl hax, v_int _, v_int _, trivial⟩, fun f hf => (by cases hf), fun f hf => (by cases hf)⟩) ⟨by decide, by decide⟩ ⟨by show cs + 0 ≤ 601024; omega, by show ss + 0 ≤ 7293034; omega⟩ hl.1 rfl hfx rfl rfl (Nat.le_of_ble_eq_true rfl) dL_law_444 (fun r w1 H locs hq hw => ?_)
  obtain ⟨v9, rfl⟩ := l_ri (c := cn_136) rfl hq
  have hkx := q_kp2 hHx hq.1 hq.2.2.1 (q := 1) (g := 1) (k := 1) rfl (by decide +kernel)
  have hkx2 : ∀ k, qsl2 w1 2 k = qsl2 wx 2 k := fun k => q_kp2 hHx hq.1 hq.2.2.1 (q := 2) (g := 2) (k := k) rfl (qm_no (by decide +kernel) k)
  replace hTc := cTo_keep hHx hq.1 hq.2.2.1 (by decide +kernel) hTc
  replace hHx := hq.1
  clear hq hs9 hfx
  refine W.eq (g2 := F0 m 447 ls [.int v9]) rfl ?_
  refine W.widen (k := cs) (n := ss) (Nat.le_refl _) (Nat.le_refl _) ?_
  refine lv_pop hx hb dL_law_447 rfl ?_
  clear v9
  have hw := hw.perm b_sw
  refine lv_aload_n hx hb dL_law_448 rfl (lv_at hl 3 rfl) ?_
  refine lv_aload_n hx hb dL_law_449 rfl (lv_at hl 1 rfl) ?_
  refine lv_iload hx hb dL_law_450 (lv_at hl 0 rfl) ?_
  refine lv_iconst (v := 1) hx hb dL_law_452 (by decide) ?_
  refine lv_iadd hx hb dL_law_453 ?_
  refine va_sld hx hb hX hbl hbA hw.2.2 (hi 1 (by decide) (by decide)) dL_law_454 ?_
  refine lv_topi (fun v3 ev3 => ?_)
  clear ev3
  refine lv_aload_n hx hb dL_law_455 rfl (lv_at hl 1 rfl) ?_
  refine lv_iload hx hb dL_law_456 (lv_at hl 0 rfl) ?_
  refine lv_iconst (v := 2) hx hb dL_law_458 (by decide) ?_
  refine lv_iadd hx hb dL_law_459 ?_
  refine va_sld hx hb hX hbl hbA hw.2.2 (hi 2 (by decide) (by decide)) dL_law_460 ?_
  refine lv_topi (fun v4 ev4 => ?_)
  clear ev4
  obtain ⟨fsz, hfz⟩ := m_recv hHm ham
  obtain ⟨y8, hy8, hs8⟩ := m_up rfl (ms_427 γ l)
  cases hy8
  refine l_V 2 gw_1577 gw_1578 gw_1579 gw_15 gw_1580 hd_X12_keeps hC hw (hs8 am wm [.ref z, .int v3, .int v4] ⟨hHm, hMx, ⟨v_ref rfl ham, v_int _, v_int _, trivial⟩, fun f hf => (by cases hf), fun f hf => (by cases hf)⟩) ⟨by decide, by decide⟩ ⟨by show cs + 0 ≤ 601024; omega, by show ss + 0 ≤ 7293034; omega⟩ hl.1 rfl hfz rfl rfl (Nat.le_of_ble_eq_true rfl) dL_law_461 (fun r w2 H locs hq hw => ?_)
  obtain ⟨v8, rfl⟩ := l_ri (c := mn_427) rfl hq
  have hkm := q_kp2 hHm hq.1 hq.2.2.1 (q := 0) (g := 0) (k := 1) rfl (by decide +kernel)
  have hkm2 : ∀ k, qsl2 w2 1 k = qsl2 wm 1 k := fun k => q_kp2 hHm hq.1 hq.2.2.1 (q := 1) (g := 1) (k := k) rfl (qm_no (by decide +kernel) k)
  replace hTm := mTo_keep hHm hq.1 hq.2.2.1 (by decide +kernel) hTm
  replace hHm := hq.1
  replace hMx := hq.2.1
  clear hq hs8 hfz
  refine W.eq (g2 := F0 m 464 ls [.int v8]) rfl ?_
  have hw := hw.perm b_sw
  refine lv_pop hx hb dL_law_464 rfl ?_
  refine lv_goto (tgt := 1258) hx hb dL_law_465 (by decide) ?_
  exact W.widen (by show cs + 0 ≤ cs + 1; omega) (by show ss + 0 ≤ ss + 6; omega) (hk _ _ _ ⟨w1, w2, fo, hw, hHx, hHm, hMx, (lR_keep hRl hkx hkx2 hkm hkm2), S, S', hTc, hTm, hTr⟩ hl)

set_option maxHeartbeats 4000000 in
set_option maxRecDepth 100000 in
theorem lc_6 {γ : kΓ} {l : Launch} {p : Program} {e : Env} {s : State} {m : MethodId} {below : List Frame} {meth : Method} {c : Code} {A : Nat → Prop} {Q : State → Prop} {b L : Nat} {xs : Nat → Int32} {x z ou : Nat} {ax am : List Nat} {i : Int32} {cs ss : Nat} (hC : kC γ p s m [Value.ref b].toArray c code 7 RL A) (hX : va_X b L xs s s.heap) (hbl : b < s.heap.size) (hbA : ¬ A b) (hl9 : l.stackTraces = false) (hax : ax[0]? = some x) (ham : am[0]? = some z) (hi : ∀ j : Int32, 0 ≤ j → j ≤ 6 → vp_in (i + j) L) (hcs : cs + 1 ≤ 601024) (hss : ss + 6 ≤ 7293034)
    (hk : ∀ (H : Heap) (locs : List Loc) (ls : Array Slot), lIv γ A ax am ou s H locs → lv_has ls 7 [(4, .int i), (0, .ref b), (1, .ref x), (2, .ref z), (3, .ref ou)] → W p l e room_1 s m [Value.ref b].toArray below meth c H locs (cs + 1) (ss + 6) Q (F0 m 1258 ls []))
    {H : Heap} {locs : List Loc} {ls : Array Slot} (hI : lIv γ A ax am ou s H locs) (hl : lv_has ls 7 [(4, .int i), (0, .ref b), (1, .ref x), (2, .ref z), (3, .ref ou)]) : W p l e room_1 s m [Value.ref b].toArray below meth c H locs cs ss Q (F0 m 468 ls []) := by
  have hx := hC.1
  have hb := hC.2.1
  obtain ⟨wx, wm, fo, hw, hHx, hHm, hMx, hRl, S, S', hTc, hTm, hTr⟩ := hI
  refine lv_aload_n hx hb dL_law_468 rfl (lv_at hl 2 rfl) ?_
  refine lv_aload_n hx hb dL_law_469 rfl (lv_at hl 1 rfl) ?_
  refine lv_iload hx hb dL_law_470 (lv_at hl 0 rfl) ?_
  refine lv_iconst (v := 1) hx hb dL_law_472 (by decide) ?_
  refine lv_iadd hx hb dL_law_473 ?_
  refine va_sld hx hb hX hbl hbA hw.2.2 (hi 1 (by decide) (by decide)) dL_law_474 ?_
  refine lv_topi (fun v1 ev1 => ?_)
  clear ev1
  refine lv_aload_n hx hb dL_law_475 rfl (lv_at hl 1 rfl) ?_
  refine lv_iload hx hb dL_law_476 (lv_at hl 0 rfl) ?_
  refine lv_iconst (v := 2) hx hb dL_law_478 (by decide) ?_
  refine lv_iadd hx hb dL_law_479 ?_
  refine va_sld hx hb hX hbl hbA hw.2.2 (hi 2 (by decide) (by decide)) dL_law_480 ?_
  refine lv_topi (fun v2 ev2 => ?_)
  clear ev2
  obtain ⟨fsx, hfx⟩ := c_recv hHx hax
  obtain ⟨y9, hy9, hs9⟩ := cs_169 γ l
  cases hy9
  refine l_V 2 gw_747 gw_748 gw_749 gw_1 gw_750 hd_X11_think hC hw (hs9 ax wx [.ref x, .int v1, .int v2] ⟨hHx, trivial, ⟨v_ref rfl hax, v_int _, v_int _, trivial⟩, fun f hf => (by cases hf), fun f hf => (by cases hf)⟩) ⟨by decide, by decide⟩ ⟨by show cs + 0 ≤ 601024; omega, by show ss + 0 ≤ 7293034; omega⟩ hl.1 rfl hfx rfl rfl (Nat.le_of_ble_eq_true rfl) dL_law_481 (fun r w1 H locs hq hw => ?_)
  obtain ⟨v9, rfl⟩ := l_ri (c := cn_169) rfl hq
  have hkx := q_kp2 hHx hq.1 hq.2.2.1 (q := 1) (g := 1) (k := 1) rfl (by decide +kernel)
  have hkx2 : ∀ k, qsl2 w1 2 k = qsl2 wx 2 k := fun k => q_kp2 hHx hq.1 hq.2.2.1 (q := 2) (g := 2) (k := k) rfl (qm_no (by decide +kernel) k)
  replace hTc := cTo_keep hHx hq.1 hq.2.2.1 (by decide +kernel) hTc
  replace hHx := hq.1
  clear hq hs9 hfx
  refine W.eq (g2 := F0 m 484 ls [.int v9]) rfl ?_
  refine W.widen (k := cs) (n := ss) (Nat.le_refl _) (Nat.le_refl _) ?_
  refine lv_pop hx hb dL_law_484 rfl ?_
  clear v9
  have hw := hw.perm b_sw
  refine lv_aload_n hx hb dL_law_485 rfl (lv_at hl 3 rfl) ?_
  refine lv_aload_n hx hb dL_law_486 rfl (lv_at hl 1 rfl) ?_
  refine lv_iload hx hb dL_law_487 (lv_at hl 0 rfl) ?_
  refine lv_iconst (v := 1) hx hb dL_law_489 (by decide) ?_
  refine lv_iadd hx hb dL_law_490 ?_
  refine va_sld hx hb hX hbl hbA hw.2.2 (hi 1 (by decide) (by decide)) dL_law_491 ?_
  refine lv_topi (fun v3 ev3 => ?_)
  clear ev3
  refine lv_aload_n hx hb dL_law_492 rfl (lv_at hl 1 rfl) ?_
  refine lv_iload hx hb dL_law_493 (lv_at hl 0 rfl) ?_
  refine lv_iconst (v := 2) hx hb dL_law_495 (by decide) ?_
  refine lv_iadd hx hb dL_law_496 ?_
  refine va_sld hx hb hX hbl hbA hw.2.2 (hi 2 (by decide) (by decide)) dL_law_497 ?_
  refine lv_topi (fun v4 ev4 => ?_)
  clear ev4
  obtain ⟨fsz, hfz⟩ := m_recv hHm ham
  obtain ⟨y8, hy8, hs8⟩ := mx_522 γ l
  cases hy8
  refine l_V 2 gw_1581 gw_1582 gw_1583 gw_15 gw_1584 hd_X12_think hC hw (hs8 am wm [.ref z, .int v3, .int v4] ⟨hHm, hMx, ⟨v_ref rfl ham, v_int _, v_int _, trivial⟩, fun f hf => (by cases hf), fun f hf => (by cases hf)⟩) ⟨by decide, by decide⟩ ⟨by show cs + 0 ≤ 601024; omega, by show ss + 0 ≤ 7293034; omega⟩ hl.1 rfl hfz rfl rfl (Nat.le_of_ble_eq_true rfl) dL_law_498 (fun r w2 H locs hq hw => ?_)
  obtain ⟨v8, rfl⟩ := l_ri (c := mn_522) rfl hq
  have hkm := q_kp2 hHm hq.1 hq.2.2.1 (q := 0) (g := 0) (k := 1) rfl (by decide +kernel)
  have hkm2 : ∀ k, qsl2 w2 1 k = qsl2 wm 1 k := fun k => q_kp2 hHm hq.1 hq.2.2.1 (q := 1) (g := 1) (k := k) rfl (qm_no (by decide +kernel) k)
  replace hTm := mTo_keep hHm hq.1 hq.2.2.1 (by decide +kernel) hTm
  replace hHm := hq.1
  replace hMx := hq.2.1
  clear hq hs8 hfz
  refine W.eq (g2 := F0 m 501 ls [.int v8]) rfl ?_
  have hw := hw.perm b_sw
  refine lv_pop hx hb dL_law_501 rfl ?_
  refine lv_goto (tgt := 1258) hx hb dL_law_502 (by decide) ?_
  exact W.widen (by show cs + 0 ≤ cs + 1; omega) (by show ss + 0 ≤ ss + 6; omega) (hk _ _ _ ⟨w1, w2, fo, hw, hHx, hHm, hMx, (lR_keep hRl hkx hkx2 hkm hkm2), S, S', hTc, hTm, hTr⟩ hl)

set_option maxHeartbeats 4000000 in
set_option maxRecDepth 100000 in
theorem lc_7 {γ : kΓ} {l : Launch} {p : Program} {e : Env} {s : State} {m : MethodId} {below : List Frame} {meth : Method} {c : Code} {A : Nat → Prop} {Q : State → Prop} {b L : Nat} {xs : Nat → Int32} {x z ou : Nat} {ax am : List Nat} {i : Int32} {cs ss : Nat} (hC : kC γ p s m [Value.ref b].toArray c code 7 RL A) (hX : va_X b L xs s s.heap) (hbl : b < s.heap.size) (hbA : ¬ A b) (hl9 : l.stackTraces = false) (hax : ax[0]? = some x) (ham : am[0]? = some z) (hi : ∀ j : Int32, 0 ≤ j → j ≤ 6 → vp_in (i + j) L) (hcs : cs + 1 ≤ 601024) (hss : ss + 6 ≤ 7293034)
    (hk : ∀ (H : Heap) (locs : List Loc) (ls : Array Slot), lIv γ A ax am ou s H locs → lv_has ls 7 [(4, .int i), (0, .ref b), (1, .ref x), (2, .ref z), (3, .ref ou)] → W p l e room_1 s m [Value.ref b].toArray below meth c H locs (cs + 1) (ss + 6) Q (F0 m 1258 ls []))
    {H : Heap} {locs : List Loc} {ls : Array Slot} (hI : lIv γ A ax am ou s H locs) (hl : lv_has ls 7 [(4, .int i), (0, .ref b), (1, .ref x), (2, .ref z), (3, .ref ou)]) : W p l e room_1 s m [Value.ref b].toArray below meth c H locs cs ss Q (F0 m 505 ls []) := by
  have hx := hC.1
  have hb := hC.2.1
  obtain ⟨wx, wm, fo, hw, hHx, hHm, hMx, hRl, S, S', hTc, hTm, hTr⟩ := hI
  refine lv_aload_n hx hb dL_law_505 rfl (lv_at hl 2 rfl) ?_
  refine lv_aload_n hx hb dL_law_506 rfl (lv_at hl 1 rfl) ?_
  refine lv_iload hx hb dL_law_507 (lv_at hl 0 rfl) ?_
  refine lv_iconst (v := 1) hx hb dL_law_509 (by decide) ?_
  refine lv_iadd hx hb dL_law_510 ?_
  refine va_sld hx hb hX hbl hbA hw.2.2 (hi 1 (by decide) (by decide)) dL_law_511 ?_
  refine lv_topi (fun v1 ev1 => ?_)
  clear ev1
  obtain ⟨fsx, hfx⟩ := c_recv hHx hax
  obtain ⟨y9, hy9, hs9⟩ := cs_125 γ l
  cases hy9
  refine l_V 1 gw_815 gw_816 gw_817 gw_1 gw_818 hd_X11_gate hC hw (hs9 ax wx [.ref x, .int v1] ⟨hHx, trivial, ⟨v_ref rfl hax, v_int _, trivial⟩, fun f hf => (by cases hf), fun f hf => (by cases hf)⟩) ⟨by decide, by decide⟩ ⟨by show cs + 0 ≤ 601024; omega, by show ss + 0 ≤ 7293034; omega⟩ hl.1 rfl hfx rfl rfl (Nat.le_of_ble_eq_true rfl) dL_law_512 (fun r w1 H locs hq hw => ?_)
  obtain ⟨v9, rfl⟩ := l_ri (c := cn_125) rfl hq
  have hkx := q_kp2 hHx hq.1 hq.2.2.1 (q := 1) (g := 1) (k := 1) rfl (by decide +kernel)
  have hkx2 : ∀ k, qsl2 w1 2 k = qsl2 wx 2 k := fun k => q_kp2 hHx hq.1 hq.2.2.1 (q := 2) (g := 2) (k := k) rfl (qm_no (by decide +kernel) k)
  replace hTc := cTo_keep hHx hq.1 hq.2.2.1 (by decide +kernel) hTc
  replace hHx := hq.1
  clear hq hs9 hfx
  refine W.eq (g2 := F0 m 515 ls [.int v9]) rfl ?_
  refine W.widen (k := cs) (n := ss) (Nat.le_refl _) (Nat.le_refl _) ?_
  refine lv_pop hx hb dL_law_515 rfl ?_
  clear v9
  have hw := hw.perm b_sw
  refine lv_aload_n hx hb dL_law_516 rfl (lv_at hl 3 rfl) ?_
  refine lv_aload_n hx hb dL_law_517 rfl (lv_at hl 1 rfl) ?_
  refine lv_iload hx hb dL_law_518 (lv_at hl 0 rfl) ?_
  refine lv_iconst (v := 1) hx hb dL_law_520 (by decide) ?_
  refine lv_iadd hx hb dL_law_521 ?_
  refine va_sld hx hb hX hbl hbA hw.2.2 (hi 1 (by decide) (by decide)) dL_law_522 ?_
  refine lv_topi (fun v2 ev2 => ?_)
  clear ev2
  obtain ⟨fsz, hfz⟩ := m_recv hHm ham
  obtain ⟨y8, hy8, hs8⟩ := mx_295 γ l
  cases hy8
  refine l_V 1 gw_1628 gw_1629 gw_1630 gw_15 gw_1631 hd_X12_gate hC hw (hs8 am wm [.ref z, .int v2] ⟨hHm, hMx, ⟨v_ref rfl ham, v_int _, trivial⟩, fun f hf => (by cases hf), fun f hf => (by cases hf)⟩) ⟨by decide, by decide⟩ ⟨by show cs + 0 ≤ 601024; omega, by show ss + 0 ≤ 7293034; omega⟩ hl.1 rfl hfz rfl rfl (Nat.le_of_ble_eq_true rfl) dL_law_523 (fun r w2 H locs hq hw => ?_)
  obtain ⟨v8, rfl⟩ := l_ri (c := mn_295) rfl hq
  have hkm := q_kp2 hHm hq.1 hq.2.2.1 (q := 0) (g := 0) (k := 1) rfl (by decide +kernel)
  have hkm2 : ∀ k, qsl2 w2 1 k = qsl2 wm 1 k := fun k => q_kp2 hHm hq.1 hq.2.2.1 (q := 1) (g := 1) (k := k) rfl (qm_no (by decide +kernel) k)
  replace hTm := mTo_keep hHm hq.1 hq.2.2.1 (by decide +kernel) hTm
  replace hHm := hq.1
  replace hMx := hq.2.1
  clear hq hs8 hfz
  refine W.eq (g2 := F0 m 526 ls [.int v8]) rfl ?_
  have hw := hw.perm b_sw
  refine lv_pop hx hb dL_law_526 rfl ?_
  refine lv_goto (tgt := 1258) hx hb dL_law_527 (by decide) ?_
  exact W.widen (by show cs + 0 ≤ cs + 1; omega) (by show ss + 0 ≤ ss + 6; omega) (hk _ _ _ ⟨w1, w2, fo, hw, hHx, hHm, hMx, (lR_keep hRl hkx hkx2 hkm hkm2), S, S', hTc, hTm, hTr⟩ hl)

theorem dX3_clear_0 : decode cX3_clear 0 = .ok (.aload_n 0, 1) := by decide +kernel
theorem dX3_clear_1 : decode cX3_clear 1 = .ok (.getfield 12, 3) := by decide +kernel
theorem dX3_clear_4 : decode cX3_clear 4 = .ok (.invokevirtual 25, 3) := by decide +kernel
theorem dX3_clear_7 : decode cX3_clear 7 = .ok (.aload_n 0, 1) := by decide +kernel
theorem dX3_clear_8 : decode cX3_clear 8 = .ok (.iconst 0, 1) := by decide +kernel
theorem dX3_clear_9 : decode cX3_clear 9 = .ok (.putfield 28, 3) := by decide +kernel
theorem dX3_clear_12 : decode cX3_clear 12 = .ok (.aload_n 0, 1) := by decide +kernel
theorem dX3_clear_13 : decode cX3_clear 13 = .ok (.iconst 0, 1) := by decide +kernel
theorem dX3_clear_14 : decode cX3_clear 14 = .ok (.putfield 32, 3) := by decide +kernel
theorem dX3_clear_17 : decode cX3_clear 17 = .ok (.return_, 1) := by decide +kernel
theorem dX3_copy_0 : decode cX3_copy 0 = .ok (.aload_n 0, 1) := by decide +kernel
theorem dX3_copy_1 : decode cX3_copy 1 = .ok (.getfield 12, 3) := by decide +kernel
theorem dX3_copy_4 : decode cX3_copy 4 = .ok (.aload_n 1, 1) := by decide +kernel
theorem dX3_copy_5 : decode cX3_copy 5 = .ok (.getfield 12, 3) := by decide +kernel
theorem dX3_copy_8 : decode cX3_copy 8 = .ok (.invokevirtual 35, 3) := by decide +kernel
theorem dX3_copy_11 : decode cX3_copy 11 = .ok (.aload_n 1, 1) := by decide +kernel
theorem dX3_copy_12 : decode cX3_copy 12 = .ok (.getfield 18, 3) := by decide +kernel
theorem dX3_copy_15 : decode cX3_copy 15 = .ok (.iconst 0, 1) := by decide +kernel
theorem dX3_copy_16 : decode cX3_copy 16 = .ok (.aload_n 0, 1) := by decide +kernel
theorem dX3_copy_17 : decode cX3_copy 17 = .ok (.getfield 18, 3) := by decide +kernel
theorem dX3_copy_20 : decode cX3_copy 20 = .ok (.iconst 0, 1) := by decide +kernel
theorem dX3_copy_21 : decode cX3_copy 21 = .ok (.bipush 40, 2) := by decide +kernel
theorem dX3_copy_23 : decode cX3_copy 23 = .ok (.invokestatic 39, 3) := by decide +kernel
theorem dX3_copy_26 : decode cX3_copy 26 = .ok (.aload_n 1, 1) := by decide +kernel
theorem dX3_copy_27 : decode cX3_copy 27 = .ok (.getfield 22, 3) := by decide +kernel
theorem dX3_copy_30 : decode cX3_copy 30 = .ok (.iconst 0, 1) := by decide +kernel
theorem dX3_copy_31 : decode cX3_copy 31 = .ok (.aload_n 0, 1) := by decide +kernel
theorem dX3_copy_32 : decode cX3_copy 32 = .ok (.getfield 22, 3) := by decide +kernel
theorem dX3_copy_35 : decode cX3_copy 35 = .ok (.iconst 0, 1) := by decide +kernel
theorem dX3_copy_36 : decode cX3_copy 36 = .ok (.bipush 8, 2) := by decide +kernel
theorem dX3_copy_38 : decode cX3_copy 38 = .ok (.invokestatic 39, 3) := by decide +kernel
theorem dX3_copy_41 : decode cX3_copy 41 = .ok (.aload_n 0, 1) := by decide +kernel
theorem dX3_copy_42 : decode cX3_copy 42 = .ok (.aload_n 1, 1) := by decide +kernel
theorem dX3_copy_43 : decode cX3_copy 43 = .ok (.getfield 28, 3) := by decide +kernel
theorem dX3_copy_46 : decode cX3_copy 46 = .ok (.putfield 28, 3) := by decide +kernel
theorem dX3_copy_49 : decode cX3_copy 49 = .ok (.aload_n 0, 1) := by decide +kernel
theorem dX3_copy_50 : decode cX3_copy 50 = .ok (.aload_n 1, 1) := by decide +kernel
theorem dX3_copy_51 : decode cX3_copy 51 = .ok (.getfield 32, 3) := by decide +kernel
theorem dX3_copy_54 : decode cX3_copy 54 = .ok (.putfield 32, 3) := by decide +kernel
theorem dX3_copy_57 : decode cX3_copy 57 = .ok (.return_, 1) := by decide +kernel
set_option maxHeartbeats 4000000 in
set_option maxRecDepth 100000 in
theorem pcl_class (γ : kΓ) (l : Launch) {adr : List Nat} {w : va_W} {p gp ap : Nat} (hH : qH cD γ adr (fun _ _ => False) w) (hp : cD.1[p]? = some 37) (hg : cD.1[gp]? = some 39) (hr : rT w p 2 gp) (hap : adr[p]? = some ap) : kM γ l yX3_clear cX3_clear 1 none ({ frames := 12, cells := 0, slots := 0, locals := 250 } : Room) [.ref ap] w (fun r w1 => r = none ∧ qH cD γ adr (fun _ _ => False) w1 ∧ qK cD cn_34.2.2.2.2.2 w w1 ∧ qsl2 w1 p 4 = some (.int 0) ∧ ∀ q, cD.1[q]? = some 37 → q ≠ p → qsl2 w1 q 4 = qsl2 w q 4) := by
  refine k_ofW (by decide) (by show 1 ≤ 1; decide) ?_
  intro p9 e s m below meth cd A ls hC hret hlocks hname hw hl
  have hx := hC.1
  have hb := hC.2.1
  have hl : lv_has ls 1 [(0, .ref ap)] := hl
  obtain ⟨apa, sta, yra, aga, ypa, lia, gua, laa, fya, fga, hapa, ea, hva, hsa, hypa, eya, ega, hlia, hgua⟩ := c_page hH hp hg hr
  rw [hap] at hapa
  obtain rfl := Option.some.inj hapa
  obtain ⟨ps, as9, es, hps, has⟩ := q_refp (g := 30) (by decide) hsa
  cases es
  obtain ⟨fst9, cs9, -, -⟩ := q_objAt hH (q := ps) (g := 30) (ci := 7) hps rfl has
  refine lv_aload_n hx hb dX3_clear_0 rfl (lv_at hl 0 rfl) ?_
  refine fg_RX3_12 hC hw p ea rfl dX3_clear_1 ?_
  obtain ⟨y1, hy1, hs1⟩ := cs_33 γ l
  cases hy1
  refine k_V (wr := []) 0 gw_655 gw_85 gw_86 gw_6 gw_87 hd_X7_clear hC hw (hs1 adr _ [.ref sta] ⟨hH, trivial, ⟨hsa, trivial⟩, fun f hf => (by cases hf), fun f hf => (by cases hf)⟩) ⟨by decide, by decide⟩ ⟨by decide, by decide⟩ hl.1 rfl ps cs9 rfl rfl (Nat.le_of_ble_eq_true rfl) (List.range _) [] (q_nd _) (q_all _) rfl rfl (fun i hi => by cases hi) dX3_clear_4 (fun r w1 H locs hq hw => ?_)
  have hw : kW γ A w1 s H locs := hw
  obtain rfl := q_rn (c := cn_33) (by decide +kernel) hq
  have hH1 := hq.1
  have hK1 := hq.2.2.1
  clear hq hs1
  have hr1 : rT w1 p 2 gp := rT_tr (hH1.1.trans hH.1.symm) (q_kp2 hH hH1 hK1 hp (by decide)) hr
  obtain ⟨apb, stb, yrb, agb, ypb, lib, gub, lab, fyb, fgb, hapb, eb, hvb, hsb, hypb, eyb, egb, hlib, hgub⟩ := c_page hH1 hp hg hr1
  rw [hap] at hapb
  obtain rfl := Option.some.inj hapb
  refine W.eq (g2 := F0 m 7 ls []) rfl ?_
  refine lv_aload_n hx hb dX3_clear_7 rfl (lv_at hl 0 rfl) ?_
  refine lv_iconst (v := 0) hx hb dX3_clear_8 (by decide) ?_
  refine fs_RX3_28 hC hw p eb rfl rfl (Nat.le_of_ble_eq_true rfl) dX3_clear_9 (fun H locs hw => ?_)
  have e2 : (w1.set p (ap, .inr (3, [.ref stb, .ref yrb, .ref agb, .int lib, .int gub, .int lab].set 3 (.int 0))))[p]? = some (ap, .inr (3, [.ref stb, .ref yrb, .ref agb, .int 0, .int gub, .int lab])) := set_at eb
  have hH2 := q_setO (k := 3) (v := .int 0) hH1 hp rfl eb (v_in (by decide) (by decide))
  refine lv_aload_n hx hb dX3_clear_12 rfl (lv_at hl 0 rfl) ?_
  refine lv_iconst (v := 0) hx hb dX3_clear_13 (by decide) ?_
  refine fs_RX3_32 hC hw p e2 rfl rfl (Nat.le_of_ble_eq_true rfl) dX3_clear_14 (fun H locs hw => ?_)
  have hH3 := q_setO (k := 4) (v := .int 0) hH2 hp rfl e2 (v_in (by decide) (by decide))
  exact k_vret hC hret hlocks hw (List.range _) (q_nd _) (q_all _) ⟨rfl, hH3, qK_set (qK_set (q_Kt hH (by decide) q_K0 hK1) hp eb (by decide)) hp e2 (by decide), qsl_here e2 (show 4 < 6 by decide), fun q hq hne => (qsl_same e2 (fun h => hne h.1)).trans ((qsl_same eb (fun h => hne h.1)).trans (q_kp2 hH hH1 hK1 hq (by decide)))⟩ (Nat.le_refl _) (Nat.le_refl _) dX3_clear_17
set_option maxHeartbeats 4000000 in
set_option maxRecDepth 100000 in
theorem cp_class (γ : kΓ) (l : Launch) {adr : List Nat} {w : va_W} {p q gp gq ap aq : Nat} (hH : qH cD γ adr (fun _ _ => False) w) (hpq : p ≠ q) (hp : cD.1[p]? = some 37) (hq : cD.1[q]? = some 37) (hgp : cD.1[gp]? = some 39) (hgq : cD.1[gq]? = some 39) (rp : rT w p 2 gp) (rq : rT w q 2 gq) (hap : adr[p]? = some ap) (haq : adr[q]? = some aq) : kM γ l yX3_copy cX3_copy 2 none ({ frames := 12, cells := 0, slots := 0, locals := 250 } : Room) [.ref ap, .ref aq] w (fun r w1 => r = none ∧ qH cD γ adr (fun _ _ => False) w1 ∧ qK cD cn_137.2.2.2.2.2 w w1 ∧ qsl2 w1 p 4 = qsl2 w q 4 ∧ (∀ j, cD.1[j]? = some 37 → j ≠ p → qsl2 w1 j 4 = qsl2 w j 4) ∧ (∀ i, i < 8 → qsl2 w1 gp i = qsl2 w gq i) ∧ ∀ j, cD.1[j]? = some 39 → j ≠ gp → ∀ i, qsl2 w1 j i = qsl2 w j i) := by
  refine k_ofW (by decide) (by show 2 ≤ 2; decide) ?_
  intro p9 e s m below meth cd A ls hC hret hlocks hname hw hl
  have hx := hC.1
  have hb := hC.2.1
  have hl : lv_has ls 2 [(0, .ref ap), (1, .ref aq)] := hl
  obtain ⟨apa, sta, yra, aga, ypa, lia, gua, laa, fya, fga, hapa, ea, hva, hsa, hypa, eya, ega, hlia, hgua⟩ := c_page hH hp hgp rp
  rw [hap] at hapa
  obtain rfl := Option.some.inj hapa
  obtain ⟨apb, stb, yrb, agb, ypb, lib, gub, lab, fyb, fgb, hapb, eb, hvb, hsb, hypb, eyb, egb, hlib, hgub⟩ := c_page hH hq hgq rq
  rw [haq] at hapb
  obtain rfl := Option.some.inj hapb
  obtain ⟨ps, as9, es, hps, has⟩ := q_refp (g := 30) (by decide) hsa
  cases es
  obtain ⟨fst9, cs9, -, -⟩ := q_objAt hH (q := ps) (g := 30) (ci := 7) hps rfl has
  refine lv_aload_n hx hb dX3_copy_0 rfl (lv_at hl 0 rfl) ?_
  refine fg_RX3_12 hC hw p ea rfl dX3_copy_1 ?_
  refine lv_aload_n hx hb dX3_copy_4 rfl (lv_at hl 1 rfl) ?_
  refine fg_RX3_12 hC hw q eb rfl dX3_copy_5 ?_
  obtain ⟨y1, hy1, hs1⟩ := cs_123 γ l
  cases hy1
  refine k_V (wr := []) 1 gw_855 gw_761 gw_762 gw_6 gw_763 hd_X7_copy hC hw (hs1 adr _ [.ref sta, .ref stb] ⟨hH, trivial, ⟨hsa, hsb, trivial⟩, fun f hf => (by cases hf), fun f hf => (by cases hf)⟩) ⟨by decide, by decide⟩ ⟨by decide, by decide⟩ hl.1 rfl ps cs9 rfl rfl (Nat.le_of_ble_eq_true rfl) (List.range _) [] (q_nd _) (q_all _) rfl rfl (fun i hi => by cases hi) dX3_copy_8 (fun r w1 H locs hq9 hw => ?_)
  have hw : kW γ A w1 s H locs := hw
  obtain rfl := q_rn (c := cn_123) (by decide +kernel) hq9
  have hH1 := hq9.1
  have hK1 := hq9.2.2.1
  clear hq9 hs1
  have rp1 : rT w1 p 2 gp := rT_tr (hH1.1.trans hH.1.symm) (q_kp2 hH hH1 hK1 hp (by decide)) rp
  have rq1 : rT w1 q 2 gq := rT_tr (hH1.1.trans hH.1.symm) (q_kp2 hH hH1 hK1 hq (by decide)) rq
  obtain ⟨apc, stc, yrc, agc, ypc, lic, guc, lac, fyc, fgc, hapc, ec, hvc, hsc, hypc, eyc, egc, hlic, hguc⟩ := c_page hH1 hp hgp rp1
  rw [hap] at hapc
  obtain rfl := Option.some.inj hapc
  obtain ⟨apd, std, yrd, agd, ypd, lid, gud, lad, fyd, fgd, hapd, ed, hvd, hsd, hypd, eyd, egd, hlid, hgud⟩ := c_page hH1 hq hgq rq1
  rw [haq] at hapd
  obtain rfl := Option.some.inj hapd
  have hK01 : qK cD cn_137.2.2.2.2.2 w w1 := q_Kt hH (by decide) q_K0 hK1
  refine W.eq (g2 := F0 m 11 ls []) rfl ?_
  refine lv_aload_n hx hb dX3_copy_11 rfl (lv_at hl 1 rfl) ?_
  refine fg_RX3_18 hC hw q ed rfl dX3_copy_12 ?_
  refine lv_iconst (v := 0) hx hb dX3_copy_15 (by decide) ?_
  refine lv_aload_n hx hb dX3_copy_16 rfl (lv_at hl 0 rfl) ?_
  refine fg_RX3_18 hC hw p ec rfl dX3_copy_17 ?_
  refine lv_iconst (v := 0) hx hb dX3_copy_20 (by decide) ?_
  refine lv_bipush (v := 40) hx hb dX3_copy_21 (by decide) ?_
  refine k_copyi hC hw gw_856 hl.1 ypd ypc eyd eyc (by decide) (by decide) (by decide) (by decide) (by decide) (by decide) (by decide) dX3_copy_23 (fun H locs hw => ?_)
  generalize hc1 : va_cpy fyd fyc (0 : Int32).toNatClampNeg (0 : Int32).toNatClampNeg (40 : Int32).toNatClampNeg = c1 at hw
  have hH2 := q_setI (f' := c1) hH1 hypc rfl eyc (fun k hk => v_seg hk)
  have hK2 := qK_setI (f' := c1) hK01 hypc eyc (by decide)
  have e2p := (set_reg (w := w1) (c := (yrc, .inl (γ.2.1 0, 40, .inl c1))) hypc hp (by decide)).trans ec
  have e2q := (set_reg (w := w1) (c := (yrc, .inl (γ.2.1 0, 40, .inl c1))) hypc hq (by decide)).trans ed
  have e2gp := (set_reg (w := w1) (c := (yrc, .inl (γ.2.1 0, 40, .inl c1))) hypc hgp (by decide)).trans egc
  have e2gq := (set_reg (w := w1) (c := (yrc, .inl (γ.2.1 0, 40, .inl c1))) hypc hgq (by decide)).trans egd
  refine W.eq (g2 := F0 m 26 ls []) rfl ?_
  refine lv_aload_n hx hb dX3_copy_26 rfl (lv_at hl 1 rfl) ?_
  refine fg_RX3_22 hC hw q e2q rfl dX3_copy_27 ?_
  refine lv_iconst (v := 0) hx hb dX3_copy_30 (by decide) ?_
  refine lv_aload_n hx hb dX3_copy_31 rfl (lv_at hl 0 rfl) ?_
  refine fg_RX3_22 hC hw p e2p rfl dX3_copy_32 ?_
  refine lv_iconst (v := 0) hx hb dX3_copy_35 (by decide) ?_
  refine lv_bipush (v := 8) hx hb dX3_copy_36 (by decide) ?_
  refine k_copyi hC hw gw_856 hl.1 gq gp e2gq e2gp (by decide) (by decide) (by decide) (by decide) (by decide) (by decide) (by decide) dX3_copy_38 (fun H locs hw => ?_)
  generalize hc2 : va_cpy fgd fgc (0 : Int32).toNatClampNeg (0 : Int32).toNatClampNeg (8 : Int32).toNatClampNeg = c2 at hw
  generalize hw2 : w1.set ypc (yrc, .inl (γ.2.1 0, 40, .inl c1)) = w2 at hw hH2 hK2 e2p e2q e2gp e2gq
  have hH3 := q_setI (f' := c2) hH2 hgp rfl e2gp (fun k hk => v_seg hk)
  have hK3 := qK_setI (f' := c2) hK2 hgp e2gp (by decide)
  have e3p := (set_reg (w := w2) (c := (agc, .inl (γ.2.1 0, 8, .inl c2))) hgp hp (by decide)).trans e2p
  have e3q := (set_reg (w := w2) (c := (agc, .inl (γ.2.1 0, 8, .inl c2))) hgp hq (by decide)).trans e2q
  have s3g : ∀ i, i < 8 → qsl2 (w2.set gp (agc, .inl (γ.2.1 0, 8, .inl c2))) gp i = some (.int (fgd i)) := fun i hi => by
    rw [qslI_here e2gp hi, ← hc2, cpy8 hi]
  have s3o : ∀ j, j ≠ gp → ∀ i, qsl2 (w2.set gp (agc, .inl (γ.2.1 0, 8, .inl c2))) j i = qsl2 w2 j i := fun j hj i => qslI_same e2gp hj
  have s2o : ∀ j, j ≠ ypc → ∀ i, qsl2 w2 j i = qsl2 w1 j i := fun j hj i => by rw [← hw2]; exact qslI_same eyc hj
  generalize hw3 : w2.set gp (agc, .inl (γ.2.1 0, 8, .inl c2)) = w3 at hw hH3 hK3 e3p e3q s3g s3o
  refine W.eq (g2 := F0 m 41 ls []) rfl ?_
  refine lv_aload_n hx hb dX3_copy_41 rfl (lv_at hl 0 rfl) ?_
  refine lv_aload_n hx hb dX3_copy_42 rfl (lv_at hl 1 rfl) ?_
  refine fg_RX3_28 hC hw q e3q rfl dX3_copy_43 ?_
  refine fs_RX3_28 hC hw p e3p rfl rfl (Nat.le_of_ble_eq_true rfl) dX3_copy_46 (fun H locs hw => ?_)
  have hH4 := q_setO (k := 3) (v := .int lid) hH3 hp rfl e3p (by exact hlid)
  have hK4 := qK_set (k := 3) (v := .int lid) hK3 hp e3p (by decide)
  have e4p : (w3.set p (ap, .inr (3, [.ref stc, .ref yrc, .ref agc, .int lic, .int guc, .int lac].set 3 (.int lid))))[p]? = some (ap, .inr (3, [.ref stc, .ref yrc, .ref agc, .int lid, .int guc, .int lac])) := set_at e3p
  have e4q : (w3.set p (ap, .inr (3, [.ref stc, .ref yrc, .ref agc, .int lic, .int guc, .int lac].set 3 (.int lid))))[q]? = _ := (List.getElem?_set_ne hpq).trans e3q
  have s4 : ∀ j i, ¬ (j = p ∧ i = 3) → qsl2 (w3.set p (ap, .inr (3, [.ref stc, .ref yrc, .ref agc, .int lic, .int guc, .int lac].set 3 (.int lid)))) j i = qsl2 w3 j i := fun j i h => qsl_same e3p h
  generalize hw4 : w3.set p (ap, .inr (3, [.ref stc, .ref yrc, .ref agc, .int lic, .int guc, .int lac].set 3 (.int lid))) = w4 at hw hH4 hK4 e4p e4q s4
  refine lv_aload_n hx hb dX3_copy_49 rfl (lv_at hl 0 rfl) ?_
  refine lv_aload_n hx hb dX3_copy_50 rfl (lv_at hl 1 rfl) ?_
  refine fg_RX3_32 hC hw q e4q rfl dX3_copy_51 ?_
  refine fs_RX3_32 hC hw p e4p rfl rfl (Nat.le_of_ble_eq_true rfl) dX3_copy_54 (fun H locs hw => ?_)
  have hH5 := q_setO (k := 4) (v := .int gud) hH4 hp rfl e4p (by exact hgud)
  have hK5 := qK_set (k := 4) (v := .int gud) hK4 hp e4p (by decide)
  have n9 : ∀ j g, cD.1[j]? = some g → g ≠ 38 → j ≠ ypc := fun j g h1 h2 e => g_ne e h1 hypc h2
  refine k_vret hC hret hlocks hw (List.range _) (q_nd _) (q_all _) ⟨rfl, hH5, hK5, ?_, fun j hj hne => ?_, fun i hi => ?_, fun j hj hne i => ?_⟩ (Nat.le_refl _) (Nat.le_refl _) dX3_copy_57
  · rw [qsl_here e4p (show 4 < 6 by decide), ← q_kp2 hH hH1 hK1 hq (k := 4) (by decide)]
    unfold qsl2
    rw [ed]
    rfl
  · rw [qsl_same e4p (fun h => hne h.1), s4 j 4 (fun h => hne h.1), s3o j (fun e => g_ne e hj hgp (by decide)) 4, s2o j (n9 j 37 hj (by decide)) 4]
    exact q_kp2 hH hH1 hK1 hj (by decide)
  · rw [qsl_same e4p (fun h => g_ne h.1 hgp hp (by decide)), s4 gp i (fun h => g_ne h.1 hgp hp (by decide)), s3g i hi, ← q_kp2 hH hH1 hK1 hgq (k := i) (qm_none (by decide) i)]
    unfold qsl2
    rw [egd]
    show _ = (if i < 8 then some (Value.int (fgd i)) else none)
    rw [if_pos hi]
  · rw [qsl_same e4p (fun h => g_ne h.1 hj hp (by decide)), s4 j i (fun h => g_ne h.1 hj hp (by decide)), s3o j hne i, s2o j (n9 j 39 hj (by decide)) i]
    exact q_kp2 hH hH1 hK1 hj (qm_none (by decide) i)

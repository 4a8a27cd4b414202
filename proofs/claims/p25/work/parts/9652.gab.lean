theorem dX11_beginAnew_0 : decode cX11_beginAnew 0 = .ok (.aload_n 0, 1) := by decide +kernel
theorem dX11_beginAnew_1 : decode cX11_beginAnew 1 = .ok (.getfield 26, 3) := by decide +kernel
theorem dX11_beginAnew_4 : decode cX11_beginAnew 4 = .ok (.invokevirtual 100, 3) := by decide +kernel
theorem dX11_beginAnew_7 : decode cX11_beginAnew 7 = .ok (.aload_n 0, 1) := by decide +kernel
theorem dX11_beginAnew_8 : decode cX11_beginAnew 8 = .ok (.getfield 19, 3) := by decide +kernel
theorem dX11_beginAnew_11 : decode cX11_beginAnew 11 = .ok (.invokevirtual 103, 3) := by decide +kernel
theorem dX11_beginAnew_14 : decode cX11_beginAnew 14 = .ok (.iconst 0, 1) := by decide +kernel
theorem dX11_beginAnew_15 : decode cX11_beginAnew 15 = .ok (.istore_n 1, 1) := by decide +kernel
theorem dX11_beginAnew_16 : decode cX11_beginAnew 16 = .ok (.iload_n 1, 1) := by decide +kernel
theorem dX11_beginAnew_17 : decode cX11_beginAnew 17 = .ok (.iconst 4, 1) := by decide +kernel
theorem dX11_beginAnew_18 : decode cX11_beginAnew 18 = .ok (.if_icmp .ge 19, 3) := by decide +kernel
theorem dX11_beginAnew_21 : decode cX11_beginAnew 21 = .ok (.aload_n 0, 1) := by decide +kernel
theorem dX11_beginAnew_22 : decode cX11_beginAnew 22 = .ok (.getfield 30, 3) := by decide +kernel
theorem dX11_beginAnew_25 : decode cX11_beginAnew 25 = .ok (.iload_n 1, 1) := by decide +kernel
theorem dX11_beginAnew_26 : decode cX11_beginAnew 26 = .ok (.aaload, 1) := by decide +kernel
theorem dX11_beginAnew_27 : decode cX11_beginAnew 27 = .ok (.iconst 0, 1) := by decide +kernel
theorem dX11_beginAnew_28 : decode cX11_beginAnew 28 = .ok (.putfield 104, 3) := by decide +kernel
theorem dX11_beginAnew_31 : decode cX11_beginAnew 31 = .ok (.iinc 1 1, 3) := by decide +kernel
theorem dX11_beginAnew_34 : decode cX11_beginAnew 34 = .ok (.goto (-18), 3) := by decide +kernel
theorem dX11_beginAnew_37 : decode cX11_beginAnew 37 = .ok (.return_, 1) := by decide +kernel
theorem dX11_mark_0 : decode cX11_mark 0 = .ok (.iload_n 1, 1) := by decide +kernel
theorem dX11_mark_1 : decode cX11_mark 1 = .ok (.ifCond .lt 8, 3) := by decide +kernel
theorem dX11_mark_4 : decode cX11_mark 4 = .ok (.iload_n 1, 1) := by decide +kernel
theorem dX11_mark_5 : decode cX11_mark 5 = .ok (.iconst 4, 1) := by decide +kernel
theorem dX11_mark_6 : decode cX11_mark 6 = .ok (.if_icmp .lt 5, 3) := by decide +kernel
theorem dX11_mark_9 : decode cX11_mark 9 = .ok (.iconst 0, 1) := by decide +kernel
theorem dX11_mark_10 : decode cX11_mark 10 = .ok (.ireturn, 1) := by decide +kernel
theorem dX11_mark_11 : decode cX11_mark 11 = .ok (.aload_n 0, 1) := by decide +kernel
theorem dX11_mark_12 : decode cX11_mark 12 = .ok (.getfield 30, 3) := by decide +kernel
theorem dX11_mark_15 : decode cX11_mark 15 = .ok (.iload_n 1, 1) := by decide +kernel
theorem dX11_mark_16 : decode cX11_mark 16 = .ok (.aaload, 1) := by decide +kernel
theorem dX11_mark_17 : decode cX11_mark 17 = .ok (.astore_n 3, 1) := by decide +kernel
theorem dX11_mark_18 : decode cX11_mark 18 = .ok (.iload_n 2, 1) := by decide +kernel
theorem dX11_mark_19 : decode cX11_mark 19 = .ok (.ifCond .ne 18, 3) := by decide +kernel
theorem dX11_mark_22 : decode cX11_mark 22 = .ok (.aload_n 3, 1) := by decide +kernel
theorem dX11_mark_23 : decode cX11_mark 23 = .ok (.aload_n 0, 1) := by decide +kernel
theorem dX11_mark_24 : decode cX11_mark 24 = .ok (.getfield 26, 3) := by decide +kernel
theorem dX11_mark_27 : decode cX11_mark 27 = .ok (.invokevirtual 221, 3) := by decide +kernel
theorem dX11_mark_30 : decode cX11_mark 30 = .ok (.aload_n 3, 1) := by decide +kernel
theorem dX11_mark_31 : decode cX11_mark 31 = .ok (.iconst 1, 1) := by decide +kernel
theorem dX11_mark_32 : decode cX11_mark 32 = .ok (.putfield 104, 3) := by decide +kernel
theorem dX11_mark_35 : decode cX11_mark 35 = .ok (.iconst 1, 1) := by decide +kernel
theorem dX11_mark_36 : decode cX11_mark 36 = .ok (.ireturn, 1) := by decide +kernel
theorem dX11_mark_37 : decode cX11_mark 37 = .ok (.aload_n 3, 1) := by decide +kernel
theorem dX11_mark_38 : decode cX11_mark 38 = .ok (.getfield 104, 3) := by decide +kernel
theorem dX11_mark_41 : decode cX11_mark 41 = .ok (.ifCond .ne 5, 3) := by decide +kernel
theorem dX11_mark_44 : decode cX11_mark 44 = .ok (.iconst 0, 1) := by decide +kernel
theorem dX11_mark_45 : decode cX11_mark 45 = .ok (.ireturn, 1) := by decide +kernel
theorem dX11_mark_46 : decode cX11_mark 46 = .ok (.aload_n 0, 1) := by decide +kernel
theorem dX11_mark_47 : decode cX11_mark 47 = .ok (.getfield 26, 3) := by decide +kernel
theorem dX11_mark_50 : decode cX11_mark 50 = .ok (.aload_n 3, 1) := by decide +kernel
theorem dX11_mark_51 : decode cX11_mark 51 = .ok (.invokevirtual 221, 3) := by decide +kernel
theorem dX11_mark_54 : decode cX11_mark 54 = .ok (.aload_n 0, 1) := by decide +kernel
theorem dX11_mark_55 : decode cX11_mark 55 = .ok (.getfield 19, 3) := by decide +kernel
theorem dX11_mark_58 : decode cX11_mark 58 = .ok (.invokevirtual 103, 3) := by decide +kernel
theorem dX11_mark_61 : decode cX11_mark 61 = .ok (.iconst 1, 1) := by decide +kernel
theorem dX11_mark_62 : decode cX11_mark 62 = .ok (.ireturn, 1) := by decide +kernel
set_option maxHeartbeats 4000000 in
set_option maxRecDepth 100000 in
theorem bA2_loop {γ : kΓ} {l : Launch} {p9 : Program} {e : Env} {s : State} {m : MethodId} {below : List Frame} {meth : Method} {c : Code} {A : Nat → Prop} {adr : List Nat} {w0 : va_W} {x : Nat} {pp pg : Nat → Nat} {gd : Nat → Int32} {ge : Nat → Nat → Int32} (hax : adr[0]? = some x) (hC : kC γ p9 s m [.ref x].toArray c cX11_beginAnew 2 RX11 A) (hr : meth.sig.returnType = none) (hlocks : meth.locks = false) : ∀ (j k : Nat), k + j = 4 → ∀ (w : va_W) (L : Nat → Int32) (H : Heap) (locs : List Loc), kW γ A w s H locs → qH cD γ adr (fun _ _ => False) w → qK cD cn_36.2.2.2.2.2 w0 w → cMp w pp pg L gd ge → (∀ i, i < k → L i = 0) → ∀ ls : Array Slot, lv_has ls 2 [(1, .int (nI k)), (0, .ref x)] → W p9 l e ({ frames := 20, cells := 0, slots := 0, locals := 400 } : Room) s m [.ref x].toArray below meth c H locs 0 0 (MQ below (kQ γ A (fun r w1 => r = none ∧ qH cD γ adr (fun _ _ => False) w1 ∧ qK cD cn_36.2.2.2.2.2 w0 w1 ∧ cM w1 (fun _ => 0) gd ge)) [.ref x].toArray s 0 0 A) (F0 m 16 ls []) := by
  have hx := hC.1
  have hb := hC.2.1
  intro j
  induction j with
  | zero =>
    intro k hk w L H locs hw hH hK hL hz ls hl
    obtain rfl : k = 4 := by omega
    refine lv_iload_n hx hb dX11_beginAnew_16 rfl (lv_at hl 0 rfl) ?_
    refine lv_iconst (v := 4) hx hb dX11_beginAnew_17 (by decide) ?_
    refine lv_icmp_ge (tgt := 37) hx hb dX11_beginAnew_18 (by decide) (fun _ => ?_) (fun h => absurd (by decide) h)
    exact k_vret hC hr hlocks hw (List.range w.length) (q_nd _) (q_all w) ⟨rfl, hH, hK, ⟨pp, pg, cMp_eq (fun i hi => hz i hi) (fun _ _ => rfl) (fun _ _ _ _ => rfl) hL⟩⟩ (Nat.le_refl _) (Nat.le_refl _) dX11_beginAnew_37
  | succ j ih =>
    intro k hk w L H locs hw hH hK hL hz ls hl
    have hk4 : k < 4 := by omega
    obtain ⟨x0, x1, x2, x3, x4, x5, x6, x7, x8, x9, x10, pn, fn, fu, fm, g0, gpn, gan, gn, gnv, gu, guv, gm⟩ := c_now hH hax
    obtain ⟨ap, fsp, e3, hap, hp, hpl, -⟩ := c_mkp hH gm hk4 (hL.1 (k + 1) (by omega)).1 (hL.2.2.1 k hk4).1
    refine lv_iload_n hx hb dX11_beginAnew_16 rfl (lv_at hl 0 rfl) ?_
    refine lv_iconst (v := 4) hx hb dX11_beginAnew_17 (by decide) ?_
    refine lv_icmp_ge (tgt := 37) hx hb dX11_beginAnew_18 (by decide) (fun h => absurd h (nI_ge (b := 4) hk4 (by decide))) (fun _ => ?_)
    refine lv_aload_n hx hb dX11_beginAnew_21 rfl (lv_at hl 1 rfl) ?_
    refine fg_RX11_30 hC hw 0 g0 rfl dX11_beginAnew_22 ?_
    refine lv_iload_n hx hb dX11_beginAnew_25 rfl (lv_at hl 0 rfl) ?_
    refine k_aldq hC hw 5 4 gm rfl (vp_in_nI hk4 (by decide)) (v := .ref ap) (by rw [nI_clamp (by omega)]; exact e3) dX11_beginAnew_26 ?_
    refine lv_iconst (v := 0) hx hb dX11_beginAnew_27 (by decide) ?_
    refine fs_RX11_104 hC hw (pp (k + 1)) hp rfl rfl (by rw [hpl]; decide) dX11_beginAnew_28 (fun H locs hw => ?_)
    refine lv_iinc (v := nI (k + 1)) (lv' := [(1, .int (nI (k + 1))), (0, .ref x)]) hx hb dX11_beginAnew_31 hl (k := 0) rfl (nI_1 k) (by decide) rfl (fun ls hl => ?_)
    refine lv_goto (tgt := 16) hx hb dX11_beginAnew_34 (by decide) ?_
    refine ih (k + 1) (by omega) _ (upd L k 0) _ _ hw (q_setO hH (hL.1 (k + 1) (by omega)).1 rfl hp (v_z (.inl rfl))) (qK_set hK (hL.1 (k + 1) (by omega)).1 hp (by decide)) (cMp_laid hk4 hL hp (by rw [hpl]; decide) (.inl rfl)) (fun i hi => ?_) ls hl
    unfold upd
    by_cases hik : i = k
    · rw [if_pos hik]
    · rw [if_neg hik]; exact hz i (by omega)
set_option maxHeartbeats 4000000 in
set_option maxRecDepth 100000 in
theorem bA2_class (γ : kΓ) (l : Launch) {adr : List Nat} {wx : va_W} {x : Nat} {L gd : Nat → Int32} {ge : Nat → Nat → Int32} (hH : qH cD γ adr (fun _ _ => False) wx) (hax : adr[0]? = some x) (hL : cM wx L gd ge) : kM γ l yX11_beginAnew cX11_beginAnew 2 none ({ frames := 20, cells := 0, slots := 0, locals := 400 } : Room) [.ref x] wx (fun r w1 => r = none ∧ qH cD γ adr (fun _ _ => False) w1 ∧ qK cD cn_36.2.2.2.2.2 wx w1 ∧ cM w1 (fun _ => 0) (upd gd 0 0) ge) := by
  refine k_ofW (by decide) (by show 1 ≤ 2; decide) ?_
  intro p9 e s m below meth cd A ls hC hr hlocks hname hw hl
  have hx := hC.1
  have hb := hC.2.1
  have hl : lv_has ls 2 [(0, .ref x)] := hl
  obtain ⟨x0, x1, x2, x3, x4, x5, x6, x7, x8, x9, x10, pn, fn, fu, fm, g0, gpn, gan, gn, gnv, gu, guv, gm⟩ := c_now hH hax
  refine lv_aload_n hx hb dX11_beginAnew_0 rfl (lv_at hl 0 rfl) ?_
  refine fg_RX11_26 hC hw 0 g0 rfl dX11_beginAnew_1 ?_
  obtain ⟨pp, pg, hL⟩ := hL
  have hp0 : adr[pp 0]? = some x2 := by
    obtain ⟨a, e1, e2⟩ := hL.2.1
    unfold qsl2 at e2
    rw [g0] at e2
    have e2 : some (Value.ref x2) = some (.ref a) := e2
    cases e2
    rw [← hH.1]
    exact e1
  obtain ⟨fp0, cp0, -, -⟩ := q_objAt hH (q := pp 0) (g := 37) (ci := 3) (hL.1 0 (by decide)).1 rfl hp0
  refine k_V (wr := []) 0 gw_651 gw_652 gw_653 gw_8 gw_654 hd_X3_clear hC hw (pcl_class γ l hH (hL.1 0 (by decide)).1 (hL.1 0 (by decide)).2.1 (hL.1 0 (by decide)).2.2.1 hp0) ⟨by decide, by decide⟩ ⟨by decide, by decide⟩ hl.1 rfl (pp 0) cp0 rfl rfl (Nat.le_of_ble_eq_true rfl) (List.range _) [] (q_nd _) (q_all _) rfl rfl (fun i hi => by cases hi) dX11_beginAnew_4 (fun r w1 H locs hq hw => ?_)
  have hw : kW γ A w1 s H locs := hw
  obtain ⟨rfl, hH1, hK1, hz1, ho1⟩ := hq
  have hL1 : cMp w1 pp pg L (upd gd 0 0) ge := by
    refine cMp_tr (hH1.1.trans hH.1.symm) (q_kp2 hH hH1 hK1 (q := 0) (g := 0) rfl (by decide)) (fun k => q_kp2 hH hH1 hK1 (q := 5) (g := 5) rfl (qm_none (by decide) k)) (fun q hq => q_kp2 hH hH1 hK1 hq (by decide)) (fun j hj => ?_) (fun j hj i hi => (q_kp2 hH hH1 hK1 (hL.1 j hj).2.1 (qm_none (by decide) i)).trans ((hL.1 j hj).2.2.2.2 i hi)) (fun k hk => ⟨(q_kp2 hH hH1 hK1 (hL.1 (k + 1) (by omega)).1 (by decide)).trans (hL.2.2.1 k hk).2.1, (hL.2.2.1 k hk).2.2⟩) hL
    unfold upd
    by_cases hj0 : j = 0
    · subst hj0; rw [if_pos rfl]; exact hz1
    · rw [if_neg hj0, ho1 _ (hL.1 j hj).1 (fun e => hj0 (hL.2.2.2.1 j 0 hj (by decide) e))]; exact (hL.1 j hj).2.2.2.1
  clear g0 gpn gan gn gnv gu guv gm
  obtain ⟨x0, x1, x2, x3, x4, x5, x6, x7, x8, x9, x10, pn, fn, fu, fm, g0, gpn, gan, gn, gnv, gu, guv, gm⟩ := c_now hH1 hax
  refine W.eq (g2 := F0 m 7 ls []) rfl ?_
  refine lv_aload_n hx hb dX11_beginAnew_7 rfl (lv_at hl 0 rfl) ?_
  refine fg_RX11_19 hC hw 0 g0 rfl dX11_beginAnew_8 ?_
  obtain ⟨y2, hy2, hs2⟩ := cs_35 γ l
  cases hy2
  refine k_V (wr := []) 0 gw_656 gw_657 gw_658 gw_5 gw_659 hd_X9_clear hC hw (hs2 adr _ [.ref x1] ⟨hH1, trivial, ⟨guv, trivial⟩, fun f hf => (by cases hf), fun f hf => (by cases hf)⟩) ⟨by decide, by decide⟩ ⟨by decide, by decide⟩ hl.1 rfl 3 gu rfl rfl (Nat.le_of_ble_eq_true rfl) (List.range _) [] (q_nd _) (q_all _) rfl rfl (fun i hi => by cases hi) dX11_beginAnew_11 (fun r w2 H locs hq hw => ?_)
  have hw : kW γ A w2 s H locs := hw
  obtain rfl := q_rn (c := cn_35) (by decide +kernel) hq
  have hH2 := hq.1
  have hK2 := hq.2.2.1
  clear hq hs2
  refine W.eq (g2 := F0 m 14 ls []) rfl ?_
  refine lv_iconst (v := 0) hx hb dX11_beginAnew_14 (by decide) ?_
  refine lv_istore_n (lv' := [(1, .int (nI 0)), (0, .ref x)]) hx hb dX11_beginAnew_15 rfl hl (by decide) rfl (fun ls hl => ?_)
  exact bA2_loop hax hC hr hlocks 4 0 rfl w2 L _ _ hw hH2 (q_Kt hH1 (by decide) (q_Kt hH (by decide) q_K0 hK1) hK2) (cMp_keep hH1 hH2 hK2 (by decide) hL1) (fun i hi => absurd hi (Nat.not_lt_zero i)) ls hl
set_option maxHeartbeats 4000000 in
set_option maxRecDepth 100000 in
theorem ab_class4 (γ : kΓ) (l : Launch) {f : Nat → Int32} {n : Nat} (hn : n ≤ 1000) (hok : ∀ k, k < n → kok (f k) = true) {adr : List Nat} {wx : va_W} {x : Nat} {S : tS} {L gd : Nat → Int32} {ge : Nat → Nat → Int32} (hH : qH cD γ adr (fun _ _ => False) wx) (hax : adr[0]? = some x) (hXT : XT f n wx) (hT : cTo wx S) (hL : cM wx L gd ge) :
    kM γ l yX11_abbey cX11_abbey 3 (some .int) ({ frames := 60, cells := 0, slots := 0, locals := 1200 } : Room) [.ref x] wx (fun r w1 => r = some (.int (fvA f n)) ∧ qH cD γ adr (fun _ _ => False) w1 ∧ qsl2 w1 1 1 = some (.int 0) ∧ (¬ fvA f n = 0 → cTo w1 S ∧ cM w1 L gd ge) ∧ (fvA f n = 0 → ∃ (a0 : aAS) (f0 : Nat → Int32) (t5 : Int32) (t6 : Int64), (∀ k, k < n → f0 k = f k) ∧ cTo w1 (tSof (F_readAbbey f0 n a0 t5 t6).2.2) ∧ cM w1 (fun _ => 0) (upd gd 0 0) ge)) := by
  refine k_ofW (by decide) (by show 1 ≤ 3; decide) ?_
  intro p e s m below meth cd A ls hC hr hlocks hname hw hl
  have hx := hC.1
  have hb := hC.2.1
  have hl : lv_has ls 3 [(0, .ref x)] := hl
  obtain ⟨pt, t0, t3, t4, pd, d0, d3, d4, hA, hB, hne, h9, h10, hCt⟩ := hT
  obtain ⟨x0, x1, x2, x3, x4, x5, x6, x7, x8, x9, x10, wr, hwx⟩ := c_x11 hH hax
  have h0 : wx[0]? = some (x, .inr (10, [.ref x0, .ref x1, .ref x2, .ref x3, .ref x4, .ref x5, .ref x6, .ref x7, .ref x8, .ref x9, .ref x10])) := by rw [hwx]; rfl
  have hax19 : adr[19]? = some x8 := by
    obtain ⟨fs0, f0, f1, f2⟩ := q_objAt hH (q := 0) (g := 0) (ci := 10) rfl rfl hax
    rw [h0] at f0
    cases f0
    obtain ⟨v0, e0, g0⟩ := f2 8 (by decide)
    cases e0
    obtain ⟨x9', e0, hx0⟩ := q_sg2 cDok (g := 19) (by decide) g0
    cases e0
    exact hx0
  have hpx : adr[pd]? = some x10 := by
    obtain ⟨a, e1, e2⟩ := h10
    unfold qsl2 at e2
    rw [h0] at e2
    have e2 : some (Value.ref x10) = some (.ref a) := e2
    cases e2
    rw [← hH.1]
    exact e1
  clear h0
  subst hwx
  refine lv_aload_n hx hb dX11_abbey_0 rfl (lv_at hl 0 rfl) ?_
  refine fg_RX11_77 hC hw 0 rfl rfl dX11_abbey_1 ?_
  refine lv_aload_n hx hb dX11_abbey_4 rfl (lv_at hl 0 rfl) ?_
  refine fg_RX11_69 hC hw 0 rfl rfl dX11_abbey_5 ?_
  obtain ⟨frr, r1, -, -⟩ := q_objAt hH (q := 19) (g := 19) (ci := 5) rfl rfl hax19
  refine k_V (wr := []) 1 gw_447 gw_448 gw_449 gw_14 gw_450 hd_X5_readAbbey hC hw (ra_class2 γ l hn hok hH hXT hA hB hne hCt hax19 hpx) ⟨by decide, by decide⟩ ⟨by decide, by decide⟩ hl.1 rfl 19 r1 rfl rfl (Nat.le_of_ble_eq_true rfl) (List.range _) [] (q_nd _) (q_all _) rfl rfl (fun i hi => by cases hi) dX11_abbey_8 (fun r w1 H locs hq hw => ?_)
  have hw : kW γ A w1 s H locs := hw
  obtain ⟨rfl, hH1, hK1, hz1, hC1, hS2⟩ := hq
  have hf1 : w1.map Prod.fst = _ := hH1.1.trans hH.1.symm
  have hA1 := cHalf_tr hf1 (fun k hk => q_kp2 hH hH1 hK1 hA.1 (ra_m21 k hk)) hA
  have hB1 := cHalf_tr hf1 (fun k hk => q_kp2 hH hH1 hK1 hB.1 (ra_m21 k hk)) hB
  have hL1 := cM_keep hH hH1 hK1 (by decide) hL
  have h91 := rT_tr hf1 (q_kp2 hH hH1 hK1 (q := 0) (g := 0) (k := 9) rfl (by decide)) h9
  have h101 := rT_tr hf1 (q_kp2 hH hH1 hK1 (q := 0) (g := 0) (k := 10) rfl (by decide)) h10
  refine W.eq (g2 := F0 m 11 ls [.int (fvA f n)]) rfl ?_
  refine lv_istore_n (lv' := [(1, .int (fvA f n)), (0, .ref x)]) hx hb dX11_abbey_11 rfl hl (by decide) rfl (fun ls hl => ?_)
  refine lv_iload_n hx hb dX11_abbey_12 rfl (lv_at hl 0 rfl) ?_
  refine lv_if_ne (tgt := 38) hx hb dX11_abbey_13 (by decide) (fun hnz => ?_) (fun hez => ?_)
  · refine lv_iload_n hx hb dX11_abbey_38 rfl (lv_at hl 0 rfl) ?_
    exact k_iret hC hr hlocks hw (List.range w1.length) (q_nd _) (q_all w1) ⟨rfl, hH1, hz1, fun _ => ⟨⟨pt, t0, t3, t4, pd, d0, d3, d4, hA1, hB1, hne, h91, h101, hC1⟩, hL1⟩, fun h => absurd h hnz⟩ (Nat.le_refl _) (Nat.le_refl _) dX11_abbey_39
  · obtain ⟨a0, f0, t5, t6, hfg, hC2⟩ := hS2 hez
    obtain ⟨y0, y1, y2, y3, y4, y5, y6, y7, y8, y9, y10, wr1, hw1⟩ := c_x11 hH1 hax
    clear hS2 hK1 hf1
    subst hw1
    refine lv_aload_n hx hb dX11_abbey_16 rfl (lv_at hl 1 rfl) ?_
    refine fg_RX11_65 hC hw 0 rfl rfl dX11_abbey_17 ?_
    refine lv_astore_n (lv' := [(2, .ref y9), (1, .int (fvA f n)), (0, .ref x)]) hx hb dX11_abbey_20 rfl hl (by decide) rfl (fun ls hl => ?_)
    refine lv_aload_n hx hb dX11_abbey_21 rfl (lv_at hl 2 rfl) ?_
    refine lv_aload_n hx hb dX11_abbey_22 rfl (lv_at hl 2 rfl) ?_
    refine fg_RX11_69 hC hw 0 rfl rfl dX11_abbey_23 ?_
    refine fs_RX11_65 hC hw 0 rfl rfl rfl (Nat.le_of_ble_eq_true rfl) dX11_abbey_26 (fun H locs hw => ?_)
    have hw : kW γ A ((x, .inr (10, [.ref y0, .ref y1, .ref y2, .ref y3, .ref y4, .ref y5, .ref y6, .ref y7, .ref y8, .ref y10, .ref y10])) :: wr1) s H locs := hw
    refine lv_aload_n hx hb dX11_abbey_29 rfl (lv_at hl 2 rfl) ?_
    refine lv_aload_n hx hb dX11_abbey_30 rfl (lv_at hl 0 rfl) ?_
    refine fs_RX11_69 hC hw 0 rfl rfl rfl (Nat.le_of_ble_eq_true rfl) dX11_abbey_31 (fun H locs hw => ?_)
    have hw : kW γ A ((x, .inr (10, [.ref y0, .ref y1, .ref y2, .ref y3, .ref y4, .ref y5, .ref y6, .ref y7, .ref y8, .ref y10, .ref y9])) :: wr1) s H locs := hw
    have hH2 := x_swH hH1
    have hA2 := cHalf_tr (w' := ((x, .inr (10, [.ref y0, .ref y1, .ref y2, .ref y3, .ref y4, .ref y5, .ref y6, .ref y7, .ref y8, .ref y10, .ref y9])) :: wr1)) (by rfl) (fun k _ => x_sw (c' := .inr (10, [.ref y0, .ref y1, .ref y2, .ref y3, .ref y4, .ref y5, .ref y6, .ref y7, .ref y8, .ref y10, .ref y9])) (c_half0 hA1).1) hA1
    have hB2 := cHalf_tr (w' := ((x, .inr (10, [.ref y0, .ref y1, .ref y2, .ref y3, .ref y4, .ref y5, .ref y6, .ref y7, .ref y8, .ref y10, .ref y9])) :: wr1)) (by rfl) (fun k _ => x_sw (c' := .inr (10, [.ref y0, .ref y1, .ref y2, .ref y3, .ref y4, .ref y5, .ref y6, .ref y7, .ref y8, .ref y10, .ref y9])) (c_half0 hB1).1) hB1
    have h92 : rT ((x, .inr (10, [.ref y0, .ref y1, .ref y2, .ref y3, .ref y4, .ref y5, .ref y6, .ref y7, .ref y8, .ref y10, .ref y9])) :: wr1) 0 9 pd := x_swT rfl h101
    have h102 : rT ((x, .inr (10, [.ref y0, .ref y1, .ref y2, .ref y3, .ref y4, .ref y5, .ref y6, .ref y7, .ref y8, .ref y10, .ref y9])) :: wr1) 0 10 pt := x_swT rfl h91
    have hC22 : cCt ((x, .inr (10, [.ref y0, .ref y1, .ref y2, .ref y3, .ref y4, .ref y5, .ref y6, .ref y7, .ref y8, .ref y10, .ref y9])) :: wr1) pd d0 d3 d4 (tSof (F_readAbbey f0 n a0 t5 t6).2.2) := by
      refine cCt_tr (fun q k v hq hv => ?_) hC2
      rcases hq with e | e | e | e
      · subst e; exact (x_sw (c_half0 hB1).1).trans hv
      · subst e; exact (x_sw (c_half0 hB1).2.1).trans hv
      · subst e; exact (x_sw (c_half0 hB1).2.2.1).trans hv
      · subst e; exact (x_sw (c_half0 hB1).2.2.2).trans hv
    have hz2 : qsl2 ((x, .inr (10, [.ref y0, .ref y1, .ref y2, .ref y3, .ref y4, .ref y5, .ref y6, .ref y7, .ref y8, .ref y10, .ref y9])) :: wr1) 1 1 = some (.int 0) := (x_sw (by decide)).trans hz1
    refine lv_aload_n hx hb dX11_abbey_34 rfl (lv_at hl 2 rfl) ?_
    have hL2 : cM ((x, .inr (10, [.ref y0, .ref y1, .ref y2, .ref y3, .ref y4, .ref y5, .ref y6, .ref y7, .ref y8, .ref y10, .ref y9])) :: wr1) L gd ge := by
      obtain ⟨pp, pg, hP⟩ := hL1
      have nz : ∀ q g, cD.1[q]? = some g → g ≠ 0 → q ≠ 0 := fun q g h1 h2 e => g_ne e h1 (show cD.1[0]? = some 0 from rfl) h2
      exact ⟨pp, pg, cMp_tr (by rfl) (by rfl) (fun k => x_sw (by decide)) (fun q hq => x_sw (nz q 37 hq (by decide))) (fun j hj => (x_sw (nz _ 37 (hP.1 j hj).1 (by decide))).trans (hP.1 j hj).2.2.2.1) (fun j hj i hi => (x_sw (nz _ 39 (hP.1 j hj).2.1 (by decide))).trans ((hP.1 j hj).2.2.2.2 i hi)) (fun k hk => ⟨(x_sw (nz _ 37 (hP.1 (k + 1) (by omega)).1 (by decide))).trans (hP.2.2.1 k hk).2.1, (hP.2.2.1 k hk).2.2⟩) hP⟩
    refine k_V (wr := []) 0 gw_647 gw_649 gp_21 gw_1 gw_650 hd_X11_beginAnew hC hw (bA2_class γ l hH2 hax hL2) ⟨by decide, by decide⟩ ⟨by decide, by decide⟩ hl.1 rfl 0 rfl rfl rfl (Nat.le_of_ble_eq_true rfl) (List.range _) [] (q_nd _) (q_all _) rfl rfl (fun i hi => by cases hi) dX11_abbey_35 (fun r w3 H locs hq hw => ?_)
    have hw : kW γ A w3 s H locs := hw
    obtain ⟨rfl, hH3, hK3, hL3⟩ := hq
    refine W.eq (g2 := F0 m 38 ls []) rfl ?_
    refine lv_iload_n hx hb dX11_abbey_38 rfl (lv_at hl 1 rfl) ?_
    exact k_iret hC hr hlocks hw (List.range w3.length) (q_nd _) (q_all w3) ⟨rfl, hH3, (q_kp2 hH2 hH3 hK3 (q := 1) (g := 1) (k := 1) rfl (by decide)).trans hz2, fun h => absurd hez h, fun _ => ⟨a0, f0, t5, t6, hfg, cTo_keep hH2 hH3 hK3 (by decide) ⟨pd, d0, d3, d4, pt, t0, t3, t4, hB2, hA2, ⟨hne.1.symm, hne.2.1.symm, hne.2.2.1.symm, hne.2.2.2.symm⟩, h92, h102, hC22⟩, hL3⟩⟩ (Nat.le_refl _) (Nat.le_refl _) dX11_abbey_39
set_option maxHeartbeats 4000000 in
set_option maxRecDepth 100000 in
theorem mk_class2 (γ : kΓ) (l : Launch) {adr : List Nat} {wx : va_W} {x : Nat} {L gd : Nat → Int32} {ge : Nat → Nat → Int32} {th b : Int32} (hb01 : b = 0 ∨ b = 1) (hH : qH cD γ adr (fun _ _ => False) wx) (hax : adr[0]? = some x) (hL : cM wx L gd ge) : kM γ l yX11_mark cX11_mark 4 (some .boolean) ({ frames := 20, cells := 0, slots := 0, locals := 400 } : Room) [.ref x, .int th, .int b] wx (fun r w1 => r = some (.int (mkV L th b)) ∧ qH cD γ adr (fun _ _ => False) w1 ∧ qK cD cn_138.2.2.2.2.2 wx w1 ∧ cM w1 (mkLa L th b) (mkD L th b gd) (mkD L th b ge)) := by
  refine k_ofW (by decide) (by show 3 ≤ 4; decide) ?_
  intro p9 e s m below meth cd A ls hC hr hlocks hname hw hl
  have hx := hC.1
  have hb := hC.2.1
  have hl : lv_has ls 4 [(0, .ref x), (1, .int th), (2, .int b)] := hl
  rcases mk_cases th with h | ⟨k, hk, rfl⟩
  · have hout : ∀ ls : Array Slot, ls.size = 4 → W p9 l e ({ frames := 20, cells := 0, slots := 0, locals := 400 } : Room) s m [Value.ref x, .int th, .int b].toArray below meth cd s.heap [] 0 0 (MQ below (kQ γ A (fun r w1 => r = some (.int (mkV L th b)) ∧ qH cD γ adr (fun _ _ => False) w1 ∧ qK cD cn_138.2.2.2.2.2 wx w1 ∧ cM w1 (mkLa L th b) (mkD L th b gd) (mkD L th b ge))) [Value.ref x, .int th, .int b].toArray s 0 0 A) (F0 m 9 ls []) := fun ls hls => by
      refine lv_iconst (v := 0) hx hb dX11_mark_9 (by decide) ?_
      exact k_zret hC hr hlocks rfl hw (List.range wx.length) (q_nd _) (q_all wx) ⟨by rw [(mk_lo h).1], hH, q_K0, by rw [(mk_lo h).2, mkD_lo h, mkD_lo h]; exact hL⟩ (Nat.le_refl _) (Nat.le_refl _) dX11_mark_10
    refine lv_iload_n hx hb dX11_mark_0 rfl (lv_at hl 1 rfl) ?_
    refine lv_if_lt (tgt := 9) hx hb dX11_mark_1 (by decide) (fun _ => hout ls hl.1) (fun h0 => ?_)
    refine lv_iload_n hx hb dX11_mark_4 rfl (lv_at hl 1 rfl) ?_
    refine lv_iconst (v := 4) hx hb dX11_mark_5 (by decide) ?_
    refine lv_icmp_lt (tgt := 11) hx hb dX11_mark_6 (by decide) (fun h4 => absurd h4 (h.elim (fun h9 => absurd h9 h0) id)) (fun _ => ?_)
    exact hout ls hl.1
  · obtain ⟨pp, pg, hL⟩ := hL
    obtain ⟨x0, x1, x2, x3, x4, x5, x6, x7, x8, x9, x10, pn, fn, fu, fm, g0, gpn, gan, gn, gnv, gu, guv, gm⟩ := c_now hH hax
    have hk1 : k + 1 < 5 := by omega
    have hp0 : adr[pp 0]? = some x2 := by
      obtain ⟨a, e1, e2⟩ := hL.2.1
      unfold qsl2 at e2
      rw [g0] at e2
      have e2 : some (Value.ref x2) = some (.ref a) := e2
      cases e2
      rw [← hH.1]
      exact e1
    obtain ⟨fp0, cp0, -, -⟩ := q_objAt hH (q := pp 0) (g := 37) (ci := 3) (hL.1 0 (by decide)).1 rfl hp0
    have hne : pp (k + 1) ≠ pp 0 := fun e => by have := hL.2.2.2.1 (k + 1) 0 hk1 (by decide) e; omega
    have hgne : pg (k + 1) ≠ pg 0 := fun e => by have := hL.2.2.2.2 (k + 1) 0 hk1 (by decide) e; omega
    obtain ⟨ap, fsp, e3, hap, hp, hpl, hpv⟩ := c_mkp hH gm hk (hL.1 (k + 1) hk1).1 (hL.2.2.1 k hk).1
    refine lv_iload_n hx hb dX11_mark_0 rfl (lv_at hl 1 rfl) ?_
    refine lv_if_lt (tgt := 9) hx hb dX11_mark_1 (by decide) (fun h0 => absurd h0 (nI_n0 (by omega))) (fun _ => ?_)
    refine lv_iload_n hx hb dX11_mark_4 rfl (lv_at hl 1 rfl) ?_
    refine lv_iconst (v := 4) hx hb dX11_mark_5 (by decide) ?_
    refine lv_icmp_lt (tgt := 11) hx hb dX11_mark_6 (by decide) (fun _ => ?_) (fun h4 => absurd (nI_lt4 hk) h4)
    refine lv_aload_n hx hb dX11_mark_11 rfl (lv_at hl 0 rfl) ?_
    refine fg_RX11_30 hC hw 0 g0 rfl dX11_mark_12 ?_
    refine lv_iload_n hx hb dX11_mark_15 rfl (lv_at hl 1 rfl) ?_
    refine k_aldq hC hw 5 4 gm rfl (vp_in_nI hk (by decide)) (v := .ref ap) (by rw [nI_clamp (by omega)]; exact e3) dX11_mark_16 ?_
    refine lv_astore_n (lv' := [(3, .ref ap), (0, .ref x), (1, .int (nI k)), (2, .int b)]) hx hb dX11_mark_17 rfl hl (by decide) rfl (fun ls hl => ?_)
    refine lv_iload_n hx hb dX11_mark_18 rfl (lv_at hl 3 rfl) ?_
    rcases hb01 with rfl | rfl
    · refine lv_if_ne (tgt := 37) hx hb dX11_mark_19 (by decide) (fun h => absurd rfl h) (fun _ => ?_)
      refine lv_aload_n hx hb dX11_mark_22 rfl (lv_at hl 0 rfl) ?_
      refine lv_aload_n hx hb dX11_mark_23 rfl (lv_at hl 1 rfl) ?_
      refine fg_RX11_26 hC hw 0 g0 rfl dX11_mark_24 ?_
      refine k_V (wr := []) 1 gw_851 gw_852 gw_853 gw_8 gw_854 hd_X3_copy hC hw (cp_class γ l hH hne (hL.1 (k + 1) (by omega)).1 (hL.1 (0) (by omega)).1 (hL.1 (k + 1) (by omega)).2.1 (hL.1 (0) (by omega)).2.1 (hL.1 (k + 1) (by omega)).2.2.1 (hL.1 (0) (by omega)).2.2.1 hap hp0) ⟨by decide, by decide⟩ ⟨by decide, by decide⟩ hl.1 rfl (pp (k + 1)) hp rfl rfl (Nat.le_of_ble_eq_true rfl) (List.range _) [] (q_nd _) (q_all _) rfl rfl (fun i hi => by cases hi) dX11_mark_27 (fun r w1 H locs hq hw => ?_)
      have hw : kW γ A w1 s H locs := hw
      obtain ⟨rfl, hH1, hK1, c4, c4o, cg, cgo⟩ := hq
      have hL1 : cMp w1 pp pg L (fun j => if j = k + 1 then gd (0) else gd j) (fun j => if j = k + 1 then ge (0) else ge j) := by
        refine cMp_tr (hH1.1.trans hH.1.symm) (q_kp2 hH hH1 hK1 (q := 0) (g := 0) rfl (by decide)) (fun k => q_kp2 hH hH1 hK1 (q := 5) (g := 5) rfl (qm_none (by decide) k)) (fun q hq => q_kp2 hH hH1 hK1 hq (by decide)) (fun j hj => ?_) (fun j hj i hi => ?_) (fun k hk => ⟨(q_kp2 hH hH1 hK1 (hL.1 (k + 1) (by omega)).1 (by decide)).trans (hL.2.2.1 k hk).2.1, (hL.2.2.1 k hk).2.2⟩) hL
        · by_cases e : j = k + 1
          · rw [e, if_pos rfl, c4]; exact (hL.1 (0) (by omega)).2.2.2.1
          · rw [if_neg e, c4o _ (hL.1 j hj).1 (fun h => e (hL.2.2.2.1 j (k + 1) hj (by omega) h))]; exact (hL.1 j hj).2.2.2.1
        · by_cases e : j = k + 1
          · rw [e, if_pos rfl, cg i hi]; exact (hL.1 (0) (by omega)).2.2.2.2 i hi
          · rw [if_neg e, cgo _ (hL.1 j hj).2.1 (fun h => e (hL.2.2.2.2 j (k + 1) hj (by omega) h)) i]; exact (hL.1 j hj).2.2.2.2 i hi
      refine W.eq (g2 := F0 m 30 ls []) rfl ?_
      clear g0 gpn gan gn gnv gu guv gm
      obtain ⟨x0, x1, x2, x3, x4, x5, x6, x7, x8, x9, x10, pn, fn, fu, fm, g0, gpn, gan, gn, gnv, gu, guv, gm⟩ := c_now hH1 hax
      obtain ⟨ap', fsp', e3', hap', hp', hpl', -⟩ := c_mkp hH1 gm hk (hL1.1 (k + 1) hk1).1 (hL1.2.2.1 k hk).1
      rw [hap] at hap'
      obtain rfl := Option.some.inj hap'
      refine lv_aload_n hx hb dX11_mark_30 rfl (lv_at hl 0 rfl) ?_
      refine lv_iconst (v := 1) hx hb dX11_mark_31 (by decide) ?_
      refine fs_RX11_104 hC hw (pp (k + 1)) hp' rfl rfl (by rw [hpl']; decide) dX11_mark_32 (fun H locs hw => ?_)
      refine lv_iconst (v := 1) hx hb dX11_mark_35 (by decide) ?_
      exact k_zret hC hr hlocks rfl hw (List.range _) (q_nd _) (q_all _) ⟨by rw [(mk_in hk).1]; rfl, q_setO hH1 (hL1.1 (k + 1) hk1).1 rfl hp' (v_z (.inr rfl)), qK_set (q_Kt hH (by decide) q_K0 hK1) (hL1.1 (k + 1) hk1).1 hp' (by decide), by rw [(mk_in hk).2, mkD_in hk, mkD_in hk, if_pos rfl, if_pos rfl, if_pos rfl]; exact ⟨pp, pg, cMp_laid hk hL1 hp' (by rw [hpl']; decide) (.inr rfl)⟩⟩ (Nat.le_refl _) (Nat.le_refl _) dX11_mark_36
    · refine lv_if_ne (tgt := 37) hx hb dX11_mark_19 (by decide) (fun _ => ?_) (fun h => absurd h (by decide))
      have h5 : fsp[5]? = some (.int (L k)) := by
        have h9 := (hL.2.2.1 k hk).2.1
        unfold qsl2 at h9
        rw [hp] at h9
        exact h9
      refine lv_aload_n hx hb dX11_mark_37 rfl (lv_at hl 0 rfl) ?_
      refine fg_RX11_104 hC hw (pp (k + 1)) hp h5 dX11_mark_38 ?_
      refine lv_if_ne (tgt := 46) hx hb dX11_mark_41 (by decide) (fun hz => ?_) (fun hz => ?_)
      · refine lv_aload_n hx hb dX11_mark_46 rfl (lv_at hl 1 rfl) ?_
        refine fg_RX11_26 hC hw 0 g0 rfl dX11_mark_47 ?_
        refine lv_aload_n hx hb dX11_mark_50 rfl (lv_at hl 0 rfl) ?_
        refine k_V (wr := []) 1 gw_851 gw_852 gw_853 gw_8 gw_854 hd_X3_copy hC hw (cp_class γ l hH hne.symm (hL.1 (0) (by omega)).1 (hL.1 (k + 1) (by omega)).1 (hL.1 (0) (by omega)).2.1 (hL.1 (k + 1) (by omega)).2.1 (hL.1 (0) (by omega)).2.2.1 (hL.1 (k + 1) (by omega)).2.2.1 hp0 hap) ⟨by decide, by decide⟩ ⟨by decide, by decide⟩ hl.1 rfl (pp 0) cp0 rfl rfl (Nat.le_of_ble_eq_true rfl) (List.range _) [] (q_nd _) (q_all _) rfl rfl (fun i hi => by cases hi) dX11_mark_51 (fun r w1 H locs hq hw => ?_)
        have hw : kW γ A w1 s H locs := hw
        obtain ⟨rfl, hH1, hK1, c4, c4o, cg, cgo⟩ := hq
        have hL1 : cMp w1 pp pg L (fun j => if j = 0 then gd (k + 1) else gd j) (fun j => if j = 0 then ge (k + 1) else ge j) := by
          refine cMp_tr (hH1.1.trans hH.1.symm) (q_kp2 hH hH1 hK1 (q := 0) (g := 0) rfl (by decide)) (fun k => q_kp2 hH hH1 hK1 (q := 5) (g := 5) rfl (qm_none (by decide) k)) (fun q hq => q_kp2 hH hH1 hK1 hq (by decide)) (fun j hj => ?_) (fun j hj i hi => ?_) (fun k hk => ⟨(q_kp2 hH hH1 hK1 (hL.1 (k + 1) (by omega)).1 (by decide)).trans (hL.2.2.1 k hk).2.1, (hL.2.2.1 k hk).2.2⟩) hL
          · by_cases e : j = 0
            · rw [e, if_pos rfl, c4]; exact (hL.1 (k + 1) (by omega)).2.2.2.1
            · rw [if_neg e, c4o _ (hL.1 j hj).1 (fun h => e (hL.2.2.2.1 j (0) hj (by omega) h))]; exact (hL.1 j hj).2.2.2.1
          · by_cases e : j = 0
            · rw [e, if_pos rfl, cg i hi]; exact (hL.1 (k + 1) (by omega)).2.2.2.2 i hi
            · rw [if_neg e, cgo _ (hL.1 j hj).2.1 (fun h => e (hL.2.2.2.2 j (0) hj (by omega) h)) i]; exact (hL.1 j hj).2.2.2.2 i hi
        refine W.eq (g2 := F0 m 54 ls []) rfl ?_
        clear g0 gpn gan gn gnv gu guv gm
        obtain ⟨x0, x1, x2, x3, x4, x5, x6, x7, x8, x9, x10, pn, fn, fu, fm, g0, gpn, gan, gn, gnv, gu, guv, gm⟩ := c_now hH1 hax
        refine lv_aload_n hx hb dX11_mark_54 rfl (lv_at hl 1 rfl) ?_
        refine fg_RX11_19 hC hw 0 g0 rfl dX11_mark_55 ?_
        obtain ⟨y2, hy2, hs2⟩ := cs_35 γ l
        cases hy2
        refine k_V (wr := []) 0 gw_656 gw_657 gw_658 gw_5 gw_659 hd_X9_clear hC hw (hs2 adr _ [.ref x1] ⟨hH1, trivial, ⟨guv, trivial⟩, fun f hf => (by cases hf), fun f hf => (by cases hf)⟩) ⟨by decide, by decide⟩ ⟨by decide, by decide⟩ hl.1 rfl 3 gu rfl rfl (Nat.le_of_ble_eq_true rfl) (List.range _) [] (q_nd _) (q_all _) rfl rfl (fun i hi => by cases hi) dX11_mark_58 (fun r w2 H locs hq hw => ?_)
        have hw : kW γ A w2 s H locs := hw
        obtain rfl := q_rn (c := cn_35) (by decide +kernel) hq
        have hH2 := hq.1
        have hK2 := hq.2.2.1
        clear hq hs2
        refine W.eq (g2 := F0 m 61 ls []) rfl ?_
        refine lv_iconst (v := 1) hx hb dX11_mark_61 (by decide) ?_
        exact k_zret hC hr hlocks rfl hw (List.range _) (q_nd _) (q_all _) ⟨by rw [(mk_in hk).1, if_neg (by decide), if_neg hz], hH2, q_Kt hH1 (by decide) (q_Kt hH (by decide) q_K0 hK1) hK2, by rw [(mk_in hk).2, mkD_in hk, mkD_in hk]; simp only [if_neg (show ¬ (1 : Int32) = 0 by decide), if_neg hz]; exact ⟨pp, pg, cMp_keep hH1 hH2 hK2 (by decide) hL1⟩⟩ (Nat.le_refl _) (Nat.le_refl _) dX11_mark_62
      · refine lv_iconst (v := 0) hx hb dX11_mark_44 (by decide) ?_
        exact k_zret hC hr hlocks rfl hw (List.range _) (q_nd _) (q_all _) ⟨by rw [(mk_in hk).1, if_neg (by decide), if_pos hz], hH, q_K0, by rw [(mk_in hk).2, mkD_in hk, mkD_in hk]; simp only [if_neg (show ¬ (1 : Int32) = 0 by decide), if_pos hz]; exact ⟨pp, pg, hL⟩⟩ (Nat.le_refl _) (Nat.le_refl _) dX11_mark_45

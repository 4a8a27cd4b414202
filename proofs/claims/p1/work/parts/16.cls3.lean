theorem dX11_mark_0 : decode cX11_mark 0 = .ok (.iload_n 1, 1) := by decide +kernel
theorem dX11_mark_1 : decode cX11_mark 1 = .ok (.ifCond .lt 8, 3) := by decide +kernel
theorem dX11_mark_4 : decode cX11_mark 4 = .ok (.iload_n 1, 1) := by decide +kernel
theorem dX11_mark_5 : decode cX11_mark 5 = .ok (.iconst 4, 1) := by decide +kernel
theorem dX11_mark_6 : decode cX11_mark 6 = .ok (.if_icmp .lt 5, 3) := by decide +kernel
theorem dX11_mark_9 : decode cX11_mark 9 = .ok (.iconst 0, 1) := by decide +kernel
theorem dX11_mark_10 : decode cX11_mark 10 = .ok (.ireturn, 1) := by decide +kernel
theorem dX11_mark_11 : decode cX11_mark 11 = .ok (.aload_n 0, 1) := by decide +kernel
theorem dX11_mark_12 : decode cX11_mark 12 = .ok (.getfield 30, 3) := by decide +kernel
theorem dX11_mark_15 : decode cX11_mark 15 = .ok (.iload_n 1, 1) := by decide +kernel
theorem dX11_mark_16 : decode cX11_mark 16 = .ok (.aaload, 1) := by decide +kernel
theorem dX11_mark_17 : decode cX11_mark 17 = .ok (.astore_n 3, 1) := by decide +kernel
theorem dX11_mark_18 : decode cX11_mark 18 = .ok (.iload_n 2, 1) := by decide +kernel
theorem dX11_mark_19 : decode cX11_mark 19 = .ok (.ifCond .ne 18, 3) := by decide +kernel
theorem dX11_mark_22 : decode cX11_mark 22 = .ok (.aload_n 3, 1) := by decide +kernel
theorem dX11_mark_23 : decode cX11_mark 23 = .ok (.aload_n 0, 1) := by decide +kernel
theorem dX11_mark_24 : decode cX11_mark 24 = .ok (.getfield 26, 3) := by decide +kernel
theorem dX11_mark_27 : decode cX11_mark 27 = .ok (.invokevirtual 221, 3) := by decide +kernel
theorem dX11_mark_30 : decode cX11_mark 30 = .ok (.aload_n 3, 1) := by decide +kernel
theorem dX11_mark_31 : decode cX11_mark 31 = .ok (.iconst 1, 1) := by decide +kernel
theorem dX11_mark_32 : decode cX11_mark 32 = .ok (.putfield 104, 3) := by decide +kernel
theorem dX11_mark_35 : decode cX11_mark 35 = .ok (.iconst 1, 1) := by decide +kernel
theorem dX11_mark_36 : decode cX11_mark 36 = .ok (.ireturn, 1) := by decide +kernel
theorem dX11_mark_37 : decode cX11_mark 37 = .ok (.aload_n 3, 1) := by decide +kernel
theorem dX11_mark_38 : decode cX11_mark 38 = .ok (.getfield 104, 3) := by decide +kernel
theorem dX11_mark_41 : decode cX11_mark 41 = .ok (.ifCond .ne 5, 3) := by decide +kernel
theorem dX11_mark_44 : decode cX11_mark 44 = .ok (.iconst 0, 1) := by decide +kernel
theorem dX11_mark_45 : decode cX11_mark 45 = .ok (.ireturn, 1) := by decide +kernel
theorem dX11_mark_46 : decode cX11_mark 46 = .ok (.aload_n 0, 1) := by decide +kernel
theorem dX11_mark_47 : decode cX11_mark 47 = .ok (.getfield 26, 3) := by decide +kernel
theorem dX11_mark_50 : decode cX11_mark 50 = .ok (.aload_n 3, 1) := by decide +kernel
theorem dX11_mark_51 : decode cX11_mark 51 = .ok (.invokevirtual 221, 3) := by decide +kernel
theorem dX11_mark_54 : decode cX11_mark 54 = .ok (.aload_n 0, 1) := by decide +kernel
theorem dX11_mark_55 : decode cX11_mark 55 = .ok (.getfield 19, 3) := by decide +kernel
theorem dX11_mark_58 : decode cX11_mark 58 = .ok (.invokevirtual 103, 3) := by decide +kernel
theorem dX11_mark_61 : decode cX11_mark 61 = .ok (.iconst 1, 1) := by decide +kernel
theorem dX11_mark_62 : decode cX11_mark 62 = .ok (.ireturn, 1) := by decide +kernel
set_option maxHeartbeats 4000000 in
set_option maxRecDepth 100000 in
theorem c_X11_mark_0_0 (γ : kΓ) (l : Launch) (x : Nat) (x0 : Nat) (x1 : Nat) (x2 : Nat) (x3 : Nat) (x4 : Nat) (x5 : Nat) (x6 : Nat) (x7 : Nat) (x8 : Nat) (x9 : Nat) (x10 : Nat) (fm : Nat → Option Nat) (ma : Nat) (mas : Nat) (mas_l : Nat) (mas_c : Nat) (mas_g : Nat) (mas_r : Nat) (mas_k : Nat) (mas_b : Nat) (may : Nat) (maq : Nat) (fmas_l : Nat → Int32) (fmas_c : Nat → Int32) (fmas_g : Nat → Int32) (fmas_r : Nat → Int64) (fmas_k : Nat → Int32) (fmas_b : Nat → Int32) (fmay : Nat → Int32) (fmaq : Nat → Int32) (x2s : Nat) (x2s_l : Nat) (x2s_c : Nat) (x2s_g : Nat) (x2s_r : Nat) (x2s_k : Nat) (x2s_b : Nat) (x2y : Nat) (x2q : Nat) (fx2s_l : Nat → Int32) (fx2s_c : Nat → Int32) (fx2s_g : Nat → Int32) (fx2s_r : Nat → Int64) (fx2s_k : Nat → Int32) (fx2s_b : Nat → Int32) (fx2y : Nat → Int32) (fx2q : Nat → Int32) (hm : fm 0 = some ma) : kM γ l yX11_mark cX11_mark 4 ((some .boolean)) ({ frames := 3, cells := 0, slots := 0, locals := 122 } : Room) [.ref x, .int 0, .int 0] [(x, .inr (10, [.ref x0, .ref x1, .ref x2, .ref x3, .ref x4, .ref x5, .ref x6, .ref x7, .ref x8, .ref x9, .ref x10])), (x3, .inl (γ.2.1 4, 4, .inr (.inr (.inr (.inr fm))))), (ma, .inr (3, [.ref mas, .ref may, .ref maq, .int 0, .int 0, .int 0])), (mas, .inr (7, [.ref mas_l, .ref mas_c, .ref mas_g, .ref mas_r, .ref mas_k, .ref mas_b, .int 0, .int 0, .int 0])), (mas_l, .inl (γ.2.1 0, 5, .inl fmas_l)), (mas_c, .inl (γ.2.1 0, 5, .inl fmas_c)), (mas_g, .inl (γ.2.1 0, 5, .inl fmas_g)), (mas_r, .inl (γ.2.1 1, 5, .inr (.inl fmas_r))), (mas_k, .inl (γ.2.1 0, 40, .inl fmas_k)), (mas_b, .inl (γ.2.1 0, 8, .inl fmas_b)), (may, .inl (γ.2.1 0, 40, .inl fmay)), (maq, .inl (γ.2.1 0, 8, .inl fmaq)), (x2, .inr (3, [.ref x2s, .ref x2y, .ref x2q, .int 0, .int 0, .int 0])), (x2s, .inr (7, [.ref x2s_l, .ref x2s_c, .ref x2s_g, .ref x2s_r, .ref x2s_k, .ref x2s_b, .int 0, .int 0, .int 0])), (x2s_l, .inl (γ.2.1 0, 5, .inl fx2s_l)), (x2s_c, .inl (γ.2.1 0, 5, .inl fx2s_c)), (x2s_g, .inl (γ.2.1 0, 5, .inl fx2s_g)), (x2s_r, .inl (γ.2.1 1, 5, .inr (.inl fx2s_r))), (x2s_k, .inl (γ.2.1 0, 40, .inl fx2s_k)), (x2s_b, .inl (γ.2.1 0, 8, .inl fx2s_b)), (x2y, .inl (γ.2.1 0, 40, .inl fx2y)), (x2q, .inl (γ.2.1 0, 8, .inl fx2q))] (fun r w1 => r = some (.int 1) ∧ w1 = []) := by
  refine k_ofW (by decide) (Nat.le_of_ble_eq_true rfl) ?_
  intro p e s m below meth c A ls hC hr hlocks hname hw hl
  have hx := hC.1
  have hb := hC.2.1
  have hl : lv_has ls 4 [(0, .ref x), (1, .int 0), (2, .int 0)] := hl
  refine lv_iload_n hx hb dX11_mark_0 rfl (lv_at hl 1 rfl) ?_
  refine lv_if_lt (tgt := 9) hx hb dX11_mark_1 (by decide) (fun h => absurd h (by decide)) (fun _ => ?_)
  refine lv_iload_n hx hb dX11_mark_4 rfl (lv_at hl 1 rfl) ?_
  refine lv_iconst (v := 4) hx hb dX11_mark_5 (by decide) ?_
  refine lv_icmp_lt (tgt := 11) hx hb dX11_mark_6 (by decide) (fun _ => ?_) (fun h => absurd (by decide) h)
  refine lv_aload_n hx hb dX11_mark_11 rfl (lv_at hl 0 rfl) ?_
  refine fg_RX11_30 hC hw 0 rfl rfl dX11_mark_12 ?_
  refine lv_iload_n hx hb dX11_mark_15 rfl (lv_at hl 1 rfl) ?_
  refine k_aldq hC hw 1 4 rfl rfl (k_in0 (by decide)) (v := .ref ma) (by rw [show (0 : Int32).toNatClampNeg = 0 from by decide, hm]; rfl) dX11_mark_16 ?_
  refine lv_astore_n (lv' := [(3, .ref ma), (0, .ref x), (1, .int 0), (2, .int 0)]) hx hb dX11_mark_17 rfl hl (by decide) rfl (fun ls hl => ?_)
  refine lv_iload_n hx hb dX11_mark_18 rfl (lv_at hl 3 rfl) ?_
  refine lv_if_ne (tgt := 37) hx hb dX11_mark_19 (by decide) (fun h => absurd rfl h) (fun _ => ?_)
  refine lv_aload_n hx hb dX11_mark_22 rfl (lv_at hl 0 rfl) ?_
  refine lv_aload_n hx hb dX11_mark_23 rfl (lv_at hl 1 rfl) ?_
  refine fg_RX11_26 hC hw 0 rfl rfl dX11_mark_24 ?_
  refine k_V (wr := [(x, .inr (10, [.ref x0, .ref x1, .ref x2, .ref x3, .ref x4, .ref x5, .ref x6, .ref x7, .ref x8, .ref x9, .ref x10])), (x3, .inl (γ.2.1 4, 4, .inr (.inr (.inr (.inr fm)))))]) 1 gw_851 gw_852 gw_853 gw_8 gw_854 hd_X3_copy hC hw (c_X3_copy γ l ma mas mas_l mas_c mas_g mas_r mas_k mas_b may maq fmas_l fmas_c fmas_g fmas_r fmas_k fmas_b fmay fmaq 0 0 0 0 0 0 x2 x2s x2s_l x2s_c x2s_g x2s_r x2s_k x2s_b x2y x2q fx2s_l fx2s_c fx2s_g fx2s_r fx2s_k fx2s_b fx2y fx2q 0 0 0 0 0 0) ⟨by decide, by decide⟩ ⟨by decide, by decide⟩ hl.1 rfl 2 rfl rfl rfl (Nat.le_of_ble_eq_true rfl) [2, 3, 4, 5, 6, 7, 8, 9, 10, 11, 12, 13, 14, 15, 16, 17, 18, 19, 20, 21] [0, 1] rfl rfl rfl rfl (by decide) dX11_mark_27 (fun r w1 H locs hq hw => ?_)
  obtain ⟨ghs_l_734, ghs_c_735, ghs_g_736, ghs_r_737, ghs_k_738, ghs_b_739, ghy_740, ghq_741, rfl, rfl⟩ := hq
  have hw : kW γ A [(x, .inr (10, [.ref x0, .ref x1, .ref x2, .ref x3, .ref x4, .ref x5, .ref x6, .ref x7, .ref x8, .ref x9, .ref x10])), (x3, .inl (γ.2.1 4, 4, .inr (.inr (.inr (.inr fm))))), (ma, .inr (3, [.ref mas, .ref may, .ref maq, .int 0, .int 0, .int 0])), (mas, .inr (7, [.ref mas_l, .ref mas_c, .ref mas_g, .ref mas_r, .ref mas_k, .ref mas_b, .int 0, .int 0, .int 0])), (mas_l, .inl (γ.2.1 0, 5, .inl ghs_l_734)), (mas_c, .inl (γ.2.1 0, 5, .inl ghs_c_735)), (mas_g, .inl (γ.2.1 0, 5, .inl ghs_g_736)), (mas_r, .inl (γ.2.1 1, 5, .inr (.inl ghs_r_737))), (mas_k, .inl (γ.2.1 0, 40, .inl ghs_k_738)), (mas_b, .inl (γ.2.1 0, 8, .inl ghs_b_739)), (may, .inl (γ.2.1 0, 40, .inl ghy_740)), (maq, .inl (γ.2.1 0, 8, .inl ghq_741)), (x2, .inr (3, [.ref x2s, .ref x2y, .ref x2q, .int 0, .int 0, .int 0])), (x2s, .inr (7, [.ref x2s_l, .ref x2s_c, .ref x2s_g, .ref x2s_r, .ref x2s_k, .ref x2s_b, .int 0, .int 0, .int 0])), (x2s_l, .inl (γ.2.1 0, 5, .inl fx2s_l)), (x2s_c, .inl (γ.2.1 0, 5, .inl fx2s_c)), (x2s_g, .inl (γ.2.1 0, 5, .inl fx2s_g)), (x2s_r, .inl (γ.2.1 1, 5, .inr (.inl fx2s_r))), (x2s_k, .inl (γ.2.1 0, 40, .inl fx2s_k)), (x2s_b, .inl (γ.2.1 0, 8, .inl fx2s_b)), (x2y, .inl (γ.2.1 0, 40, .inl fx2y)), (x2q, .inl (γ.2.1 0, 8, .inl fx2q))] s H locs := hw
  refine W.eq (g2 := F0 m 30 ls []) rfl ?_
  refine lv_aload_n hx hb dX11_mark_30 rfl (lv_at hl 0 rfl) ?_
  refine lv_iconst (v := 1) hx hb dX11_mark_31 (by decide) ?_
  refine fs_RX11_104 hC hw 2 rfl rfl rfl (Nat.le_of_ble_eq_true rfl) dX11_mark_32 (fun H locs hw => ?_)
  have hw : kW γ A [(x, .inr (10, [.ref x0, .ref x1, .ref x2, .ref x3, .ref x4, .ref x5, .ref x6, .ref x7, .ref x8, .ref x9, .ref x10])), (x3, .inl (γ.2.1 4, 4, .inr (.inr (.inr (.inr fm))))), (ma, .inr (3, [.ref mas, .ref may, .ref maq, .int 0, .int 0, .int 1])), (mas, .inr (7, [.ref mas_l, .ref mas_c, .ref mas_g, .ref mas_r, .ref mas_k, .ref mas_b, .int 0, .int 0, .int 0])), (mas_l, .inl (γ.2.1 0, 5, .inl ghs_l_734)), (mas_c, .inl (γ.2.1 0, 5, .inl ghs_c_735)), (mas_g, .inl (γ.2.1 0, 5, .inl ghs_g_736)), (mas_r, .inl (γ.2.1 1, 5, .inr (.inl ghs_r_737))), (mas_k, .inl (γ.2.1 0, 40, .inl ghs_k_738)), (mas_b, .inl (γ.2.1 0, 8, .inl ghs_b_739)), (may, .inl (γ.2.1 0, 40, .inl ghy_740)), (maq, .inl (γ.2.1 0, 8, .inl ghq_741)), (x2, .inr (3, [.ref x2s, .ref x2y, .ref x2q, .int 0, .int 0, .int 0])), (x2s, .inr (7, [.ref x2s_l, .ref x2s_c, .ref x2s_g, .ref x2s_r, .ref x2s_k, .ref x2s_b, .int 0, .int 0, .int 0])), (x2s_l, .inl (γ.2.1 0, 5, .inl fx2s_l)), (x2s_c, .inl (γ.2.1 0, 5, .inl fx2s_c)), (x2s_g, .inl (γ.2.1 0, 5, .inl fx2s_g)), (x2s_r, .inl (γ.2.1 1, 5, .inr (.inl fx2s_r))), (x2s_k, .inl (γ.2.1 0, 40, .inl fx2s_k)), (x2s_b, .inl (γ.2.1 0, 8, .inl fx2s_b)), (x2y, .inl (γ.2.1 0, 40, .inl fx2y)), (x2q, .inl (γ.2.1 0, 8, .inl fx2q))] s H locs := hw
  refine lv_iconst (v := 1) hx hb dX11_mark_35 (by decide) ?_
  exact k_zret hC hr hlocks rfl hw [] rfl rfl ⟨rfl, rfl⟩ (by decide) (by decide) dX11_mark_36

set_option maxHeartbeats 4000000 in
set_option maxRecDepth 100000 in
theorem c_X11_mark_0_1 (γ : kΓ) (l : Launch) (x : Nat) (x0 : Nat) (x1 : Nat) (x2 : Nat) (x3 : Nat) (x4 : Nat) (x5 : Nat) (x6 : Nat) (x7 : Nat) (x8 : Nat) (x9 : Nat) (x10 : Nat) (fm : Nat → Option Nat) (ma : Nat) (mas : Nat) (may : Nat) (maq : Nat) (hm : fm 0 = some ma) : kM γ l yX11_mark cX11_mark 4 ((some .boolean)) ({ frames := 0, cells := 0, slots := 0, locals := 0 } : Room) [.ref x, .int 0, .int 1] [(x, .inr (10, [.ref x0, .ref x1, .ref x2, .ref x3, .ref x4, .ref x5, .ref x6, .ref x7, .ref x8, .ref x9, .ref x10])), (x3, .inl (γ.2.1 4, 4, .inr (.inr (.inr (.inr fm))))), (ma, .inr (3, [.ref mas, .ref may, .ref maq, .int 0, .int 0, .int 0]))] (fun r w1 => r = some (.int 0) ∧ w1 = []) := by
  refine k_ofW (by decide) (Nat.le_of_ble_eq_true rfl) ?_
  intro p e s m below meth c A ls hC hr hlocks hname hw hl
  have hx := hC.1
  have hb := hC.2.1
  have hl : lv_has ls 4 [(0, .ref x), (1, .int 0), (2, .int 1)] := hl
  refine lv_iload_n hx hb dX11_mark_0 rfl (lv_at hl 1 rfl) ?_
  refine lv_if_lt (tgt := 9) hx hb dX11_mark_1 (by decide) (fun h => absurd h (by decide)) (fun _ => ?_)
  refine lv_iload_n hx hb dX11_mark_4 rfl (lv_at hl 1 rfl) ?_
  refine lv_iconst (v := 4) hx hb dX11_mark_5 (by decide) ?_
  refine lv_icmp_lt (tgt := 11) hx hb dX11_mark_6 (by decide) (fun _ => ?_) (fun h => absurd (by decide) h)
  refine lv_aload_n hx hb dX11_mark_11 rfl (lv_at hl 0 rfl) ?_
  refine fg_RX11_30 hC hw 0 rfl rfl dX11_mark_12 ?_
  refine lv_iload_n hx hb dX11_mark_15 rfl (lv_at hl 1 rfl) ?_
  refine k_aldq hC hw 1 4 rfl rfl (k_in0 (by decide)) (v := .ref ma) (by rw [show (0 : Int32).toNatClampNeg = 0 from by decide, hm]; rfl) dX11_mark_16 ?_
  refine lv_astore_n (lv' := [(3, .ref ma), (0, .ref x), (1, .int 0), (2, .int 1)]) hx hb dX11_mark_17 rfl hl (by decide) rfl (fun ls hl => ?_)
  refine lv_iload_n hx hb dX11_mark_18 rfl (lv_at hl 3 rfl) ?_
  refine lv_if_ne (tgt := 37) hx hb dX11_mark_19 (by decide) (fun _ => ?_) (fun h => absurd h (by decide))
  refine lv_aload_n hx hb dX11_mark_37 rfl (lv_at hl 0 rfl) ?_
  refine fg_RX11_104 hC hw 2 rfl rfl dX11_mark_38 ?_
  refine lv_if_ne (tgt := 46) hx hb dX11_mark_41 (by decide) (fun h => absurd rfl h) (fun _ => ?_)
  refine lv_iconst (v := 0) hx hb dX11_mark_44 (by decide) ?_
  exact k_zret hC hr hlocks rfl hw [] rfl rfl ⟨rfl, rfl⟩ (by decide) (by decide) dX11_mark_45

set_option maxHeartbeats 4000000 in
set_option maxRecDepth 100000 in
theorem c_X11_mark_1_0 (γ : kΓ) (l : Launch) (x : Nat) (x0 : Nat) (x1 : Nat) (x2 : Nat) (x3 : Nat) (x4 : Nat) (x5 : Nat) (x6 : Nat) (x7 : Nat) (x8 : Nat) (x9 : Nat) (x10 : Nat) (fm : Nat → Option Nat) (mb : Nat) (mbs : Nat) (mbs_l : Nat) (mbs_c : Nat) (mbs_g : Nat) (mbs_r : Nat) (mbs_k : Nat) (mbs_b : Nat) (mby : Nat) (mbq : Nat) (fmbs_l : Nat → Int32) (fmbs_c : Nat → Int32) (fmbs_g : Nat → Int32) (fmbs_r : Nat → Int64) (fmbs_k : Nat → Int32) (fmbs_b : Nat → Int32) (fmby : Nat → Int32) (fmbq : Nat → Int32) (x2s : Nat) (x2s_l : Nat) (x2s_c : Nat) (x2s_g : Nat) (x2s_r : Nat) (x2s_k : Nat) (x2s_b : Nat) (x2y : Nat) (x2q : Nat) (fx2s_l : Nat → Int32) (fx2s_c : Nat → Int32) (fx2s_g : Nat → Int32) (fx2s_r : Nat → Int64) (fx2s_k : Nat → Int32) (fx2s_b : Nat → Int32) (fx2y : Nat → Int32) (fx2q : Nat → Int32) (hm : fm 1 = some mb) : kM γ l yX11_mark cX11_mark 4 ((some .boolean)) ({ frames := 3, cells := 0, slots := 0, locals := 122 } : Room) [.ref x, .int 1, .int 0] [(x, .inr (10, [.ref x0, .ref x1, .ref x2, .ref x3, .ref x4, .ref x5, .ref x6, .ref x7, .ref x8, .ref x9, .ref x10])), (x3, .inl (γ.2.1 4, 4, .inr (.inr (.inr (.inr fm))))), (mb, .inr (3, [.ref mbs, .ref mby, .ref mbq, .int 0, .int 0, .int 0])), (mbs, .inr (7, [.ref mbs_l, .ref mbs_c, .ref mbs_g, .ref mbs_r, .ref mbs_k, .ref mbs_b, .int 0, .int 0, .int 0])), (mbs_l, .inl (γ.2.1 0, 5, .inl fmbs_l)), (mbs_c, .inl (γ.2.1 0, 5, .inl fmbs_c)), (mbs_g, .inl (γ.2.1 0, 5, .inl fmbs_g)), (mbs_r, .inl (γ.2.1 1, 5, .inr (.inl fmbs_r))), (mbs_k, .inl (γ.2.1 0, 40, .inl fmbs_k)), (mbs_b, .inl (γ.2.1 0, 8, .inl fmbs_b)), (mby, .inl (γ.2.1 0, 40, .inl fmby)), (mbq, .inl (γ.2.1 0, 8, .inl fmbq)), (x2, .inr (3, [.ref x2s, .ref x2y, .ref x2q, .int 0, .int 0, .int 0])), (x2s, .inr (7, [.ref x2s_l, .ref x2s_c, .ref x2s_g, .ref x2s_r, .ref x2s_k, .ref x2s_b, .int 0, .int 0, .int 0])), (x2s_l, .inl (γ.2.1 0, 5, .inl fx2s_l)), (x2s_c, .inl (γ.2.1 0, 5, .inl fx2s_c)), (x2s_g, .inl (γ.2.1 0, 5, .inl fx2s_g)), (x2s_r, .inl (γ.2.1 1, 5, .inr (.inl fx2s_r))), (x2s_k, .inl (γ.2.1 0, 40, .inl fx2s_k)), (x2s_b, .inl (γ.2.1 0, 8, .inl fx2s_b)), (x2y, .inl (γ.2.1 0, 40, .inl fx2y)), (x2q, .inl (γ.2.1 0, 8, .inl fx2q))] (fun r w1 => r = some (.int 1) ∧ w1 = []) := by
  refine k_ofW (by decide) (Nat.le_of_ble_eq_true rfl) ?_
  intro p e s m below meth c A ls hC hr hlocks hname hw hl
  have hx := hC.1
  have hb := hC.2.1
  have hl : lv_has ls 4 [(0, .ref x), (1, .int 1), (2, .int 0)] := hl
  refine lv_iload_n hx hb dX11_mark_0 rfl (lv_at hl 1 rfl) ?_
  refine lv_if_lt (tgt := 9) hx hb dX11_mark_1 (by decide) (fun h => absurd h (by decide)) (fun _ => ?_)
  refine lv_iload_n hx hb dX11_mark_4 rfl (lv_at hl 1 rfl) ?_
  refine lv_iconst (v := 4) hx hb dX11_mark_5 (by decide) ?_
  refine lv_icmp_lt (tgt := 11) hx hb dX11_mark_6 (by decide) (fun _ => ?_) (fun h => absurd (by decide) h)
  refine lv_aload_n hx hb dX11_mark_11 rfl (lv_at hl 0 rfl) ?_
  refine fg_RX11_30 hC hw 0 rfl rfl dX11_mark_12 ?_
  refine lv_iload_n hx hb dX11_mark_15 rfl (lv_at hl 1 rfl) ?_
  refine k_aldq hC hw 1 4 rfl rfl (k_in0 (by decide)) (v := .ref mb) (by rw [show (1 : Int32).toNatClampNeg = 1 from by decide, hm]; rfl) dX11_mark_16 ?_
  refine lv_astore_n (lv' := [(3, .ref mb), (0, .ref x), (1, .int 1), (2, .int 0)]) hx hb dX11_mark_17 rfl hl (by decide) rfl (fun ls hl => ?_)
  refine lv_iload_n hx hb dX11_mark_18 rfl (lv_at hl 3 rfl) ?_
  refine lv_if_ne (tgt := 37) hx hb dX11_mark_19 (by decide) (fun h => absurd rfl h) (fun _ => ?_)
  refine lv_aload_n hx hb dX11_mark_22 rfl (lv_at hl 0 rfl) ?_
  refine lv_aload_n hx hb dX11_mark_23 rfl (lv_at hl 1 rfl) ?_
  refine fg_RX11_26 hC hw 0 rfl rfl dX11_mark_24 ?_
  refine k_V (wr := [(x, .inr (10, [.ref x0, .ref x1, .ref x2, .ref x3, .ref x4, .ref x5, .ref x6, .ref x7, .ref x8, .ref x9, .ref x10])), (x3, .inl (γ.2.1 4, 4, .inr (.inr (.inr (.inr fm)))))]) 1 gw_851 gw_852 gw_853 gw_8 gw_854 hd_X3_copy hC hw (c_X3_copy γ l mb mbs mbs_l mbs_c mbs_g mbs_r mbs_k mbs_b mby mbq fmbs_l fmbs_c fmbs_g fmbs_r fmbs_k fmbs_b fmby fmbq 0 0 0 0 0 0 x2 x2s x2s_l x2s_c x2s_g x2s_r x2s_k x2s_b x2y x2q fx2s_l fx2s_c fx2s_g fx2s_r fx2s_k fx2s_b fx2y fx2q 0 0 0 0 0 0) ⟨by decide, by decide⟩ ⟨by decide, by decide⟩ hl.1 rfl 2 rfl rfl rfl (Nat.le_of_ble_eq_true rfl) [2, 3, 4, 5, 6, 7, 8, 9, 10, 11, 12, 13, 14, 15, 16, 17, 18, 19, 20, 21] [0, 1] rfl rfl rfl rfl (by decide) dX11_mark_27 (fun r w1 H locs hq hw => ?_)
  obtain ⟨ghs_l_742, ghs_c_743, ghs_g_744, ghs_r_745, ghs_k_746, ghs_b_747, ghy_748, ghq_749, rfl, rfl⟩ := hq
  have hw : kW γ A [(x, .inr (10, [.ref x0, .ref x1, .ref x2, .ref x3, .ref x4, .ref x5, .ref x6, .ref x7, .ref x8, .ref x9, .ref x10])), (x3, .inl (γ.2.1 4, 4, .inr (.inr (.inr (.inr fm))))), (mb, .inr (3, [.ref mbs, .ref mby, .ref mbq, .int 0, .int 0, .int 0])), (mbs, .inr (7, [.ref mbs_l, .ref mbs_c, .ref mbs_g, .ref mbs_r, .ref mbs_k, .ref mbs_b, .int 0, .int 0, .int 0])), (mbs_l, .inl (γ.2.1 0, 5, .inl ghs_l_742)), (mbs_c, .inl (γ.2.1 0, 5, .inl ghs_c_743)), (mbs_g, .inl (γ.2.1 0, 5, .inl ghs_g_744)), (mbs_r, .inl (γ.2.1 1, 5, .inr (.inl ghs_r_745))), (mbs_k, .inl (γ.2.1 0, 40, .inl ghs_k_746)), (mbs_b, .inl (γ.2.1 0, 8, .inl ghs_b_747)), (mby, .inl (γ.2.1 0, 40, .inl ghy_748)), (mbq, .inl (γ.2.1 0, 8, .inl ghq_749)), (x2, .inr (3, [.ref x2s, .ref x2y, .ref x2q, .int 0, .int 0, .int 0])), (x2s, .inr (7, [.ref x2s_l, .ref x2s_c, .ref x2s_g, .ref x2s_r, .ref x2s_k, .ref x2s_b, .int 0, .int 0, .int 0])), (x2s_l, .inl (γ.2.1 0, 5, .inl fx2s_l)), (x2s_c, .inl (γ.2.1 0, 5, .inl fx2s_c)), (x2s_g, .inl (γ.2.1 0, 5, .inl fx2s_g)), (x2s_r, .inl (γ.2.1 1, 5, .inr (.inl fx2s_r))), (x2s_k, .inl (γ.2.1 0, 40, .inl fx2s_k)), (x2s_b, .inl (γ.2.1 0, 8, .inl fx2s_b)), (x2y, .inl (γ.2.1 0, 40, .inl fx2y)), (x2q, .inl (γ.2.1 0, 8, .inl fx2q))] s H locs := hw
  refine W.eq (g2 := F0 m 30 ls []) rfl ?_
  refine lv_aload_n hx hb dX11_mark_30 rfl (lv_at hl 0 rfl) ?_
  refine lv_iconst (v := 1) hx hb dX11_mark_31 (by decide) ?_
  refine fs_RX11_104 hC hw 2 rfl rfl rfl (Nat.le_of_ble_eq_true rfl) dX11_mark_32 (fun H locs hw => ?_)
  have hw : kW γ A [(x, .inr (10, [.ref x0, .ref x1, .ref x2, .ref x3, .ref x4, .ref x5, .ref x6, .ref x7, .ref x8, .ref x9, .ref x10])), (x3, .inl (γ.2.1 4, 4, .inr (.inr (.inr (.inr fm))))), (mb, .inr (3, [.ref mbs, .ref mby, .ref mbq, .int 0, .int 0, .int 1])), (mbs, .inr (7, [.ref mbs_l, .ref mbs_c, .ref mbs_g, .ref mbs_r, .ref mbs_k, .ref mbs_b, .int 0, .int 0, .int 0])), (mbs_l, .inl (γ.2.1 0, 5, .inl ghs_l_742)), (mbs_c, .inl (γ.2.1 0, 5, .inl ghs_c_743)), (mbs_g, .inl (γ.2.1 0, 5, .inl ghs_g_744)), (mbs_r, .inl (γ.2.1 1, 5, .inr (.inl ghs_r_745))), (mbs_k, .inl (γ.2.1 0, 40, .inl ghs_k_746)), (mbs_b, .inl (γ.2.1 0, 8, .inl ghs_b_747)), (mby, .inl (γ.2.1 0, 40, .inl ghy_748)), (mbq, .inl (γ.2.1 0, 8, .inl ghq_749)), (x2, .inr (3, [.ref x2s, .ref x2y, .ref x2q, .int 0, .int 0, .int 0])), (x2s, .inr (7, [.ref x2s_l, .ref x2s_c, .ref x2s_g, .ref x2s_r, .ref x2s_k, .ref x2s_b, .int 0, .int 0, .int 0])), (x2s_l, .inl (γ.2.1 0, 5, .inl fx2s_l)), (x2s_c, .inl (γ.2.1 0, 5, .inl fx2s_c)), (x2s_g, .inl (γ.2.1 0, 5, .inl fx2s_g)), (x2s_r, .inl (γ.2.1 1, 5, .inr (.inl fx2s_r))), (x2s_k, .inl (γ.2.1 0, 40, .inl fx2s_k)), (x2s_b, .inl (γ.2.1 0, 8, .inl fx2s_b)), (x2y, .inl (γ.2.1 0, 40, .inl fx2y)), (x2q, .inl (γ.2.1 0, 8, .inl fx2q))] s H locs := hw
  refine lv_iconst (v := 1) hx hb dX11_mark_35 (by decide) ?_
  exact k_zret hC hr hlocks rfl hw [] rfl rfl ⟨rfl, rfl⟩ (by decide) (by decide) dX11_mark_36

set_option maxHeartbeats 4000000 in
set_option maxRecDepth 100000 in
theorem c_X11_mark_1_1 (γ : kΓ) (l : Launch) (x : Nat) (x0 : Nat) (x1 : Nat) (x2 : Nat) (x3 : Nat) (x4 : Nat) (x5 : Nat) (x6 : Nat) (x7 : Nat) (x8 : Nat) (x9 : Nat) (x10 : Nat) (fm : Nat → Option Nat) (mb : Nat) (mbs : Nat) (mby : Nat) (mbq : Nat) (hm : fm 1 = some mb) : kM γ l yX11_mark cX11_mark 4 ((some .boolean)) ({ frames := 0, cells := 0, slots := 0, locals := 0 } : Room) [.ref x, .int 1, .int 1] [(x, .inr (10, [.ref x0, .ref x1, .ref x2, .ref x3, .ref x4, .ref x5, .ref x6, .ref x7, .ref x8, .ref x9, .ref x10])), (x3, .inl (γ.2.1 4, 4, .inr (.inr (.inr (.inr fm))))), (mb, .inr (3, [.ref mbs, .ref mby, .ref mbq, .int 0, .int 0, .int 0]))] (fun r w1 => r = some (.int 0) ∧ w1 = []) := by
  refine k_ofW (by decide) (Nat.le_of_ble_eq_true rfl) ?_
  intro p e s m below meth c A ls hC hr hlocks hname hw hl
  have hx := hC.1
  have hb := hC.2.1
  have hl : lv_has ls 4 [(0, .ref x), (1, .int 1), (2, .int 1)] := hl
  refine lv_iload_n hx hb dX11_mark_0 rfl (lv_at hl 1 rfl) ?_
  refine lv_if_lt (tgt := 9) hx hb dX11_mark_1 (by decide) (fun h => absurd h (by decide)) (fun _ => ?_)
  refine lv_iload_n hx hb dX11_mark_4 rfl (lv_at hl 1 rfl) ?_
  refine lv_iconst (v := 4) hx hb dX11_mark_5 (by decide) ?_
  refine lv_icmp_lt (tgt := 11) hx hb dX11_mark_6 (by decide) (fun _ => ?_) (fun h => absurd (by decide) h)
  refine lv_aload_n hx hb dX11_mark_11 rfl (lv_at hl 0 rfl) ?_
  refine fg_RX11_30 hC hw 0 rfl rfl dX11_mark_12 ?_
  refine lv_iload_n hx hb dX11_mark_15 rfl (lv_at hl 1 rfl) ?_
  refine k_aldq hC hw 1 4 rfl rfl (k_in0 (by decide)) (v := .ref mb) (by rw [show (1 : Int32).toNatClampNeg = 1 from by decide, hm]; rfl) dX11_mark_16 ?_
  refine lv_astore_n (lv' := [(3, .ref mb), (0, .ref x), (1, .int 1), (2, .int 1)]) hx hb dX11_mark_17 rfl hl (by decide) rfl (fun ls hl => ?_)
  refine lv_iload_n hx hb dX11_mark_18 rfl (lv_at hl 3 rfl) ?_
  refine lv_if_ne (tgt := 37) hx hb dX11_mark_19 (by decide) (fun _ => ?_) (fun h => absurd h (by decide))
  refine lv_aload_n hx hb dX11_mark_37 rfl (lv_at hl 0 rfl) ?_
  refine fg_RX11_104 hC hw 2 rfl rfl dX11_mark_38 ?_
  refine lv_if_ne (tgt := 46) hx hb dX11_mark_41 (by decide) (fun h => absurd rfl h) (fun _ => ?_)
  refine lv_iconst (v := 0) hx hb dX11_mark_44 (by decide) ?_
  exact k_zret hC hr hlocks rfl hw [] rfl rfl ⟨rfl, rfl⟩ (by decide) (by decide) dX11_mark_45

set_option maxHeartbeats 4000000 in
set_option maxRecDepth 100000 in
theorem c_X11_mark_2_0 (γ : kΓ) (l : Launch) (x : Nat) (x0 : Nat) (x1 : Nat) (x2 : Nat) (x3 : Nat) (x4 : Nat) (x5 : Nat) (x6 : Nat) (x7 : Nat) (x8 : Nat) (x9 : Nat) (x10 : Nat) (fm : Nat → Option Nat) (mc : Nat) (mcs : Nat) (mcs_l : Nat) (mcs_c : Nat) (mcs_g : Nat) (mcs_r : Nat) (mcs_k : Nat) (mcs_b : Nat) (mcy : Nat) (mcq : Nat) (fmcs_l : Nat → Int32) (fmcs_c : Nat → Int32) (fmcs_g : Nat → Int32) (fmcs_r : Nat → Int64) (fmcs_k : Nat → Int32) (fmcs_b : Nat → Int32) (fmcy : Nat → Int32) (fmcq : Nat → Int32) (x2s : Nat) (x2s_l : Nat) (x2s_c : Nat) (x2s_g : Nat) (x2s_r : Nat) (x2s_k : Nat) (x2s_b : Nat) (x2y : Nat) (x2q : Nat) (fx2s_l : Nat → Int32) (fx2s_c : Nat → Int32) (fx2s_g : Nat → Int32) (fx2s_r : Nat → Int64) (fx2s_k : Nat → Int32) (fx2s_b : Nat → Int32) (fx2y : Nat → Int32) (fx2q : Nat → Int32) (hm : fm 2 = some mc) : kM γ l yX11_mark cX11_mark 4 ((some .boolean)) ({ frames := 3, cells := 0, slots := 0, locals := 122 } : Room) [.ref x, .int 2, .int 0] [(x, .inr (10, [.ref x0, .ref x1, .ref x2, .ref x3, .ref x4, .ref x5, .ref x6, .ref x7, .ref x8, .ref x9, .ref x10])), (x3, .inl (γ.2.1 4, 4, .inr (.inr (.inr (.inr fm))))), (mc, .inr (3, [.ref mcs, .ref mcy, .ref mcq, .int 0, .int 0, .int 0])), (mcs, .inr (7, [.ref mcs_l, .ref mcs_c, .ref mcs_g, .ref mcs_r, .ref mcs_k, .ref mcs_b, .int 0, .int 0, .int 0])), (mcs_l, .inl (γ.2.1 0, 5, .inl fmcs_l)), (mcs_c, .inl (γ.2.1 0, 5, .inl fmcs_c)), (mcs_g, .inl (γ.2.1 0, 5, .inl fmcs_g)), (mcs_r, .inl (γ.2.1 1, 5, .inr (.inl fmcs_r))), (mcs_k, .inl (γ.2.1 0, 40, .inl fmcs_k)), (mcs_b, .inl (γ.2.1 0, 8, .inl fmcs_b)), (mcy, .inl (γ.2.1 0, 40, .inl fmcy)), (mcq, .inl (γ.2.1 0, 8, .inl fmcq)), (x2, .inr (3, [.ref x2s, .ref x2y, .ref x2q, .int 0, .int 0, .int 0])), (x2s, .inr (7, [.ref x2s_l, .ref x2s_c, .ref x2s_g, .ref x2s_r, .ref x2s_k, .ref x2s_b, .int 0, .int 0, .int 0])), (x2s_l, .inl (γ.2.1 0, 5, .inl fx2s_l)), (x2s_c, .inl (γ.2.1 0, 5, .inl fx2s_c)), (x2s_g, .inl (γ.2.1 0, 5, .inl fx2s_g)), (x2s_r, .inl (γ.2.1 1, 5, .inr (.inl fx2s_r))), (x2s_k, .inl (γ.2.1 0, 40, .inl fx2s_k)), (x2s_b, .inl (γ.2.1 0, 8, .inl fx2s_b)), (x2y, .inl (γ.2.1 0, 40, .inl fx2y)), (x2q, .inl (γ.2.1 0, 8, .inl fx2q))] (fun r w1 => r = some (.int 1) ∧ w1 = []) := by
  refine k_ofW (by decide) (Nat.le_of_ble_eq_true rfl) ?_
  intro p e s m below meth c A ls hC hr hlocks hname hw hl
  have hx := hC.1
  have hb := hC.2.1
  have hl : lv_has ls 4 [(0, .ref x), (1, .int 2), (2, .int 0)] := hl
  refine lv_iload_n hx hb dX11_mark_0 rfl (lv_at hl 1 rfl) ?_
  refine lv_if_lt (tgt := 9) hx hb dX11_mark_1 (by decide) (fun h => absurd h (by decide)) (fun _ => ?_)
  refine lv_iload_n hx hb dX11_mark_4 rfl (lv_at hl 1 rfl) ?_
  refine lv_iconst (v := 4) hx hb dX11_mark_5 (by decide) ?_
  refine lv_icmp_lt (tgt := 11) hx hb dX11_mark_6 (by decide) (fun _ => ?_) (fun h => absurd (by decide) h)
  refine lv_aload_n hx hb dX11_mark_11 rfl (lv_at hl 0 rfl) ?_
  refine fg_RX11_30 hC hw 0 rfl rfl dX11_mark_12 ?_
  refine lv_iload_n hx hb dX11_mark_15 rfl (lv_at hl 1 rfl) ?_
  refine k_aldq hC hw 1 4 rfl rfl (k_in0 (by decide)) (v := .ref mc) (by rw [show (2 : Int32).toNatClampNeg = 2 from by decide, hm]; rfl) dX11_mark_16 ?_
  refine lv_astore_n (lv' := [(3, .ref mc), (0, .ref x), (1, .int 2), (2, .int 0)]) hx hb dX11_mark_17 rfl hl (by decide) rfl (fun ls hl => ?_)
  refine lv_iload_n hx hb dX11_mark_18 rfl (lv_at hl 3 rfl) ?_
  refine lv_if_ne (tgt := 37) hx hb dX11_mark_19 (by decide) (fun h => absurd rfl h) (fun _ => ?_)
  refine lv_aload_n hx hb dX11_mark_22 rfl (lv_at hl 0 rfl) ?_
  refine lv_aload_n hx hb dX11_mark_23 rfl (lv_at hl 1 rfl) ?_
  refine fg_RX11_26 hC hw 0 rfl rfl dX11_mark_24 ?_
  refine k_V (wr := [(x, .inr (10, [.ref x0, .ref x1, .ref x2, .ref x3, .ref x4, .ref x5, .ref x6, .ref x7, .ref x8, .ref x9, .ref x10])), (x3, .inl (γ.2.1 4, 4, .inr (.inr (.inr (.inr fm)))))]) 1 gw_851 gw_852 gw_853 gw_8 gw_854 hd_X3_copy hC hw (c_X3_copy γ l mc mcs mcs_l mcs_c mcs_g mcs_r mcs_k mcs_b mcy mcq fmcs_l fmcs_c fmcs_g fmcs_r fmcs_k fmcs_b fmcy fmcq 0 0 0 0 0 0 x2 x2s x2s_l x2s_c x2s_g x2s_r x2s_k x2s_b x2y x2q fx2s_l fx2s_c fx2s_g fx2s_r fx2s_k fx2s_b fx2y fx2q 0 0 0 0 0 0) ⟨by decide, by decide⟩ ⟨by decide, by decide⟩ hl.1 rfl 2 rfl rfl rfl (Nat.le_of_ble_eq_true rfl) [2, 3, 4, 5, 6, 7, 8, 9, 10, 11, 12, 13, 14, 15, 16, 17, 18, 19, 20, 21] [0, 1] rfl rfl rfl rfl (by decide) dX11_mark_27 (fun r w1 H locs hq hw => ?_)
  obtain ⟨ghs_l_750, ghs_c_751, ghs_g_752, ghs_r_753, ghs_k_754, ghs_b_755, ghy_756, ghq_757, rfl, rfl⟩ := hq
  have hw : kW γ A [(x, .inr (10, [.ref x0, .ref x1, .ref x2, .ref x3, .ref x4, .ref x5, .ref x6, .ref x7, .ref x8, .ref x9, .ref x10])), (x3, .inl (γ.2.1 4, 4, .inr (.inr (.inr (.inr fm))))), (mc, .inr (3, [.ref mcs, .ref mcy, .ref mcq, .int 0, .int 0, .int 0])), (mcs, .inr (7, [.ref mcs_l, .ref mcs_c, .ref mcs_g, .ref mcs_r, .ref mcs_k, .ref mcs_b, .int 0, .int 0, .int 0])), (mcs_l, .inl (γ.2.1 0, 5, .inl ghs_l_750)), (mcs_c, .inl (γ.2.1 0, 5, .inl ghs_c_751)), (mcs_g, .inl (γ.2.1 0, 5, .inl ghs_g_752)), (mcs_r, .inl (γ.2.1 1, 5, .inr (.inl ghs_r_753))), (mcs_k, .inl (γ.2.1 0, 40, .inl ghs_k_754)), (mcs_b, .inl (γ.2.1 0, 8, .inl ghs_b_755)), (mcy, .inl (γ.2.1 0, 40, .inl ghy_756)), (mcq, .inl (γ.2.1 0, 8, .inl ghq_757)), (x2, .inr (3, [.ref x2s, .ref x2y, .ref x2q, .int 0, .int 0, .int 0])), (x2s, .inr (7, [.ref x2s_l, .ref x2s_c, .ref x2s_g, .ref x2s_r, .ref x2s_k, .ref x2s_b, .int 0, .int 0, .int 0])), (x2s_l, .inl (γ.2.1 0, 5, .inl fx2s_l)), (x2s_c, .inl (γ.2.1 0, 5, .inl fx2s_c)), (x2s_g, .inl (γ.2.1 0, 5, .inl fx2s_g)), (x2s_r, .inl (γ.2.1 1, 5, .inr (.inl fx2s_r))), (x2s_k, .inl (γ.2.1 0, 40, .inl fx2s_k)), (x2s_b, .inl (γ.2.1 0, 8, .inl fx2s_b)), (x2y, .inl (γ.2.1 0, 40, .inl fx2y)), (x2q, .inl (γ.2.1 0, 8, .inl fx2q))] s H locs := hw
  refine W.eq (g2 := F0 m 30 ls []) rfl ?_
  refine lv_aload_n hx hb dX11_mark_30 rfl (lv_at hl 0 rfl) ?_
  refine lv_iconst (v := 1) hx hb dX11_mark_31 (by decide) ?_
  refine fs_RX11_104 hC hw 2 rfl rfl rfl (Nat.le_of_ble_eq_true rfl) dX11_mark_32 (fun H locs hw => ?_)
  have hw : kW γ A [(x, .inr (10, [.ref x0, .ref x1, .ref x2, .ref x3, .ref x4, .ref x5, .ref x6, .ref x7, .ref x8, .ref x9, .ref x10])), (x3, .inl (γ.2.1 4, 4, .inr (.inr (.inr (.inr fm))))), (mc, .inr (3, [.ref mcs, .ref mcy, .ref mcq, .int 0, .int 0, .int 1])), (mcs, .inr (7, [.ref mcs_l, .ref mcs_c, .ref mcs_g, .ref mcs_r, .ref mcs_k, .ref mcs_b, .int 0, .int 0, .int 0])), (mcs_l, .inl (γ.2.1 0, 5, .inl ghs_l_750)), (mcs_c, .inl (γ.2.1 0, 5, .inl ghs_c_751)), (mcs_g, .inl (γ.2.1 0, 5, .inl ghs_g_752)), (mcs_r, .inl (γ.2.1 1, 5, .inr (.inl ghs_r_753))), (mcs_k, .inl (γ.2.1 0, 40, .inl ghs_k_754)), (mcs_b, .inl (γ.2.1 0, 8, .inl ghs_b_755)), (mcy, .inl (γ.2.1 0, 40, .inl ghy_756)), (mcq, .inl (γ.2.1 0, 8, .inl ghq_757)), (x2, .inr (3, [.ref x2s, .ref x2y, .ref x2q, .int 0, .int 0, .int 0])), (x2s, .inr (7, [.ref x2s_l, .ref x2s_c, .ref x2s_g, .ref x2s_r, .ref x2s_k, .ref x2s_b, .int 0, .int 0, .int 0])), (x2s_l, .inl (γ.2.1 0, 5, .inl fx2s_l)), (x2s_c, .inl (γ.2.1 0, 5, .inl fx2s_c)), (x2s_g, .inl (γ.2.1 0, 5, .inl fx2s_g)), (x2s_r, .inl (γ.2.1 1, 5, .inr (.inl fx2s_r))), (x2s_k, .inl (γ.2.1 0, 40, .inl fx2s_k)), (x2s_b, .inl (γ.2.1 0, 8, .inl fx2s_b)), (x2y, .inl (γ.2.1 0, 40, .inl fx2y)), (x2q, .inl (γ.2.1 0, 8, .inl fx2q))] s H locs := hw
  refine lv_iconst (v := 1) hx hb dX11_mark_35 (by decide) ?_
  exact k_zret hC hr hlocks rfl hw [] rfl rfl ⟨rfl, rfl⟩ (by decide) (by decide) dX11_mark_36

set_option maxHeartbeats 4000000 in
set_option maxRecDepth 100000 in
theorem c_X11_mark_2_1 (γ : kΓ) (l : Launch) (x : Nat) (x0 : Nat) (x1 : Nat) (x2 : Nat) (x3 : Nat) (x4 : Nat) (x5 : Nat) (x6 : Nat) (x7 : Nat) (x8 : Nat) (x9 : Nat) (x10 : Nat) (fm : Nat → Option Nat) (mc : Nat) (mcs : Nat) (mcy : Nat) (mcq : Nat) (hm : fm 2 = some mc) : kM γ l yX11_mark cX11_mark 4 ((some .boolean)) ({ frames := 0, cells := 0, slots := 0, locals := 0 } : Room) [.ref x, .int 2, .int 1] [(x, .inr (10, [.ref x0, .ref x1, .ref x2, .ref x3, .ref x4, .ref x5, .ref x6, .ref x7, .ref x8, .ref x9, .ref x10])), (x3, .inl (γ.2.1 4, 4, .inr (.inr (.inr (.inr fm))))), (mc, .inr (3, [.ref mcs, .ref mcy, .ref mcq, .int 0, .int 0, .int 0]))] (fun r w1 => r = some (.int 0) ∧ w1 = []) := by
  refine k_ofW (by decide) (Nat.le_of_ble_eq_true rfl) ?_
  intro p e s m below meth c A ls hC hr hlocks hname hw hl
  have hx := hC.1
  have hb := hC.2.1
  have hl : lv_has ls 4 [(0, .ref x), (1, .int 2), (2, .int 1)] := hl
  refine lv_iload_n hx hb dX11_mark_0 rfl (lv_at hl 1 rfl) ?_
  refine lv_if_lt (tgt := 9) hx hb dX11_mark_1 (by decide) (fun h => absurd h (by decide)) (fun _ => ?_)
  refine lv_iload_n hx hb dX11_mark_4 rfl (lv_at hl 1 rfl) ?_
  refine lv_iconst (v := 4) hx hb dX11_mark_5 (by decide) ?_
  refine lv_icmp_lt (tgt := 11) hx hb dX11_mark_6 (by decide) (fun _ => ?_) (fun h => absurd (by decide) h)
  refine lv_aload_n hx hb dX11_mark_11 rfl (lv_at hl 0 rfl) ?_
  refine fg_RX11_30 hC hw 0 rfl rfl dX11_mark_12 ?_
  refine lv_iload_n hx hb dX11_mark_15 rfl (lv_at hl 1 rfl) ?_
  refine k_aldq hC hw 1 4 rfl rfl (k_in0 (by decide)) (v := .ref mc) (by rw [show (2 : Int32).toNatClampNeg = 2 from by decide, hm]; rfl) dX11_mark_16 ?_
  refine lv_astore_n (lv' := [(3, .ref mc), (0, .ref x), (1, .int 2), (2, .int 1)]) hx hb dX11_mark_17 rfl hl (by decide) rfl (fun ls hl => ?_)
  refine lv_iload_n hx hb dX11_mark_18 rfl (lv_at hl 3 rfl) ?_
  refine lv_if_ne (tgt := 37) hx hb dX11_mark_19 (by decide) (fun _ => ?_) (fun h => absurd h (by decide))
  refine lv_aload_n hx hb dX11_mark_37 rfl (lv_at hl 0 rfl) ?_
  refine fg_RX11_104 hC hw 2 rfl rfl dX11_mark_38 ?_
  refine lv_if_ne (tgt := 46) hx hb dX11_mark_41 (by decide) (fun h => absurd rfl h) (fun _ => ?_)
  refine lv_iconst (v := 0) hx hb dX11_mark_44 (by decide) ?_
  exact k_zret hC hr hlocks rfl hw [] rfl rfl ⟨rfl, rfl⟩ (by decide) (by decide) dX11_mark_45

set_option maxHeartbeats 4000000 in
set_option maxRecDepth 100000 in
theorem c_X11_mark_3_0 (γ : kΓ) (l : Launch) (x : Nat) (x0 : Nat) (x1 : Nat) (x2 : Nat) (x3 : Nat) (x4 : Nat) (x5 : Nat) (x6 : Nat) (x7 : Nat) (x8 : Nat) (x9 : Nat) (x10 : Nat) (fm : Nat → Option Nat) (md : Nat) (mds : Nat) (mds_l : Nat) (mds_c : Nat) (mds_g : Nat) (mds_r : Nat) (mds_k : Nat) (mds_b : Nat) (mdy : Nat) (mdq : Nat) (fmds_l : Nat → Int32) (fmds_c : Nat → Int32) (fmds_g : Nat → Int32) (fmds_r : Nat → Int64) (fmds_k : Nat → Int32) (fmds_b : Nat → Int32) (fmdy : Nat → Int32) (fmdq : Nat → Int32) (x2s : Nat) (x2s_l : Nat) (x2s_c : Nat) (x2s_g : Nat) (x2s_r : Nat) (x2s_k : Nat) (x2s_b : Nat) (x2y : Nat) (x2q : Nat) (fx2s_l : Nat → Int32) (fx2s_c : Nat → Int32) (fx2s_g : Nat → Int32) (fx2s_r : Nat → Int64) (fx2s_k : Nat → Int32) (fx2s_b : Nat → Int32) (fx2y : Nat → Int32) (fx2q : Nat → Int32) (hm : fm 3 = some md) : kM γ l yX11_mark cX11_mark 4 ((some .boolean)) ({ frames := 3, cells := 0, slots := 0, locals := 122 } : Room) [.ref x, .int 3, .int 0] [(x, .inr (10, [.ref x0, .ref x1, .ref x2, .ref x3, .ref x4, .ref x5, .ref x6, .ref x7, .ref x8, .ref x9, .ref x10])), (x3, .inl (γ.2.1 4, 4, .inr (.inr (.inr (.inr fm))))), (md, .inr (3, [.ref mds, .ref mdy, .ref mdq, .int 0, .int 0, .int 0])), (mds, .inr (7, [.ref mds_l, .ref mds_c, .ref mds_g, .ref mds_r, .ref mds_k, .ref mds_b, .int 0, .int 0, .int 0])), (mds_l, .inl (γ.2.1 0, 5, .inl fmds_l)), (mds_c, .inl (γ.2.1 0, 5, .inl fmds_c)), (mds_g, .inl (γ.2.1 0, 5, .inl fmds_g)), (mds_r, .inl (γ.2.1 1, 5, .inr (.inl fmds_r))), (mds_k, .inl (γ.2.1 0, 40, .inl fmds_k)), (mds_b, .inl (γ.2.1 0, 8, .inl fmds_b)), (mdy, .inl (γ.2.1 0, 40, .inl fmdy)), (mdq, .inl (γ.2.1 0, 8, .inl fmdq)), (x2, .inr (3, [.ref x2s, .ref x2y, .ref x2q, .int 0, .int 0, .int 0])), (x2s, .inr (7, [.ref x2s_l, .ref x2s_c, .ref x2s_g, .ref x2s_r, .ref x2s_k, .ref x2s_b, .int 0, .int 0, .int 0])), (x2s_l, .inl (γ.2.1 0, 5, .inl fx2s_l)), (x2s_c, .inl (γ.2.1 0, 5, .inl fx2s_c)), (x2s_g, .inl (γ.2.1 0, 5, .inl fx2s_g)), (x2s_r, .inl (γ.2.1 1, 5, .inr (.inl fx2s_r))), (x2s_k, .inl (γ.2.1 0, 40, .inl fx2s_k)), (x2s_b, .inl (γ.2.1 0, 8, .inl fx2s_b)), (x2y, .inl (γ.2.1 0, 40, .inl fx2y)), (x2q, .inl (γ.2.1 0, 8, .inl fx2q))] (fun r w1 => r = some (.int 1) ∧ w1 = []) := by
  refine k_ofW (by decide) (Nat.le_of_ble_eq_true rfl) ?_
  intro p e s m below meth c A ls hC hr hlocks hname hw hl
  have hx := hC.1
  have hb := hC.2.1
  have hl : lv_has ls 4 [(0, .ref x), (1, .int 3), (2, .int 0)] := hl
  refine lv_iload_n hx hb dX11_mark_0 rfl (lv_at hl 1 rfl) ?_
  refine lv_if_lt (tgt := 9) hx hb dX11_mark_1 (by decide) (fun h => absurd h (by decide)) (fun _ => ?_)
  refine lv_iload_n hx hb dX11_mark_4 rfl (lv_at hl 1 rfl) ?_
  refine lv_iconst (v := 4) hx hb dX11_mark_5 (by decide) ?_
  refine lv_icmp_lt (tgt := 11) hx hb dX11_mark_6 (by decide) (fun _ => ?_) (fun h => absurd (by decide) h)
  refine lv_aload_n hx hb dX11_mark_11 rfl (lv_at hl 0 rfl) ?_
  refine fg_RX11_30 hC hw 0 rfl rfl dX11_mark_12 ?_
  refine lv_iload_n hx hb dX11_mark_15 rfl (lv_at hl 1 rfl) ?_
  refine k_aldq hC hw 1 4 rfl rfl (k_in0 (by decide)) (v := .ref md) (by rw [show (3 : Int32).toNatClampNeg = 3 from by decide, hm]; rfl) dX11_mark_16 ?_
  refine lv_astore_n (lv' := [(3, .ref md), (0, .ref x), (1, .int 3), (2, .int 0)]) hx hb dX11_mark_17 rfl hl (by decide) rfl (fun ls hl => ?_)
  refine lv_iload_n hx hb dX11_mark_18 rfl (lv_at hl 3 rfl) ?_
  refine lv_if_ne (tgt := 37) hx hb dX11_mark_19 (by decide) (fun h => absurd rfl h) (fun _ => ?_)
  refine lv_aload_n hx hb dX11_mark_22 rfl (lv_at hl 0 rfl) ?_
  refine lv_aload_n hx hb dX11_mark_23 rfl (lv_at hl 1 rfl) ?_
  refine fg_RX11_26 hC hw 0 rfl rfl dX11_mark_24 ?_
  refine k_V (wr := [(x, .inr (10, [.ref x0, .ref x1, .ref x2, .ref x3, .ref x4, .ref x5, .ref x6, .ref x7, .ref x8, .ref x9, .ref x10])), (x3, .inl (γ.2.1 4, 4, .inr (.inr (.inr (.inr fm)))))]) 1 gw_851 gw_852 gw_853 gw_8 gw_854 hd_X3_copy hC hw (c_X3_copy γ l md mds mds_l mds_c mds_g mds_r mds_k mds_b mdy mdq fmds_l fmds_c fmds_g fmds_r fmds_k fmds_b fmdy fmdq 0 0 0 0 0 0 x2 x2s x2s_l x2s_c x2s_g x2s_r x2s_k x2s_b x2y x2q fx2s_l fx2s_c fx2s_g fx2s_r fx2s_k fx2s_b fx2y fx2q 0 0 0 0 0 0) ⟨by decide, by decide⟩ ⟨by decide, by decide⟩ hl.1 rfl 2 rfl rfl rfl (Nat.le_of_ble_eq_true rfl) [2, 3, 4, 5, 6, 7, 8, 9, 10, 11, 12, 13, 14, 15, 16, 17, 18, 19, 20, 21] [0, 1] rfl rfl rfl rfl (by decide) dX11_mark_27 (fun r w1 H locs hq hw => ?_)
  obtain ⟨ghs_l_758, ghs_c_759, ghs_g_760, ghs_r_761, ghs_k_762, ghs_b_763, ghy_764, ghq_765, rfl, rfl⟩ := hq
  have hw : kW γ A [(x, .inr (10, [.ref x0, .ref x1, .ref x2, .ref x3, .ref x4, .ref x5, .ref x6, .ref x7, .ref x8, .ref x9, .ref x10])), (x3, .inl (γ.2.1 4, 4, .inr (.inr (.inr (.inr fm))))), (md, .inr (3, [.ref mds, .ref mdy, .ref mdq, .int 0, .int 0, .int 0])), (mds, .inr (7, [.ref mds_l, .ref mds_c, .ref mds_g, .ref mds_r, .ref mds_k, .ref mds_b, .int 0, .int 0, .int 0])), (mds_l, .inl (γ.2.1 0, 5, .inl ghs_l_758)), (mds_c, .inl (γ.2.1 0, 5, .inl ghs_c_759)), (mds_g, .inl (γ.2.1 0, 5, .inl ghs_g_760)), (mds_r, .inl (γ.2.1 1, 5, .inr (.inl ghs_r_761))), (mds_k, .inl (γ.2.1 0, 40, .inl ghs_k_762)), (mds_b, .inl (γ.2.1 0, 8, .inl ghs_b_763)), (mdy, .inl (γ.2.1 0, 40, .inl ghy_764)), (mdq, .inl (γ.2.1 0, 8, .inl ghq_765)), (x2, .inr (3, [.ref x2s, .ref x2y, .ref x2q, .int 0, .int 0, .int 0])), (x2s, .inr (7, [.ref x2s_l, .ref x2s_c, .ref x2s_g, .ref x2s_r, .ref x2s_k, .ref x2s_b, .int 0, .int 0, .int 0])), (x2s_l, .inl (γ.2.1 0, 5, .inl fx2s_l)), (x2s_c, .inl (γ.2.1 0, 5, .inl fx2s_c)), (x2s_g, .inl (γ.2.1 0, 5, .inl fx2s_g)), (x2s_r, .inl (γ.2.1 1, 5, .inr (.inl fx2s_r))), (x2s_k, .inl (γ.2.1 0, 40, .inl fx2s_k)), (x2s_b, .inl (γ.2.1 0, 8, .inl fx2s_b)), (x2y, .inl (γ.2.1 0, 40, .inl fx2y)), (x2q, .inl (γ.2.1 0, 8, .inl fx2q))] s H locs := hw
  refine W.eq (g2 := F0 m 30 ls []) rfl ?_
  refine lv_aload_n hx hb dX11_mark_30 rfl (lv_at hl 0 rfl) ?_
  refine lv_iconst (v := 1) hx hb dX11_mark_31 (by decide) ?_
  refine fs_RX11_104 hC hw 2 rfl rfl rfl (Nat.le_of_ble_eq_true rfl) dX11_mark_32 (fun H locs hw => ?_)
  have hw : kW γ A [(x, .inr (10, [.ref x0, .ref x1, .ref x2, .ref x3, .ref x4, .ref x5, .ref x6, .ref x7, .ref x8, .ref x9, .ref x10])), (x3, .inl (γ.2.1 4, 4, .inr (.inr (.inr (.inr fm))))), (md, .inr (3, [.ref mds, .ref mdy, .ref mdq, .int 0, .int 0, .int 1])), (mds, .inr (7, [.ref mds_l, .ref mds_c, .ref mds_g, .ref mds_r, .ref mds_k, .ref mds_b, .int 0, .int 0, .int 0])), (mds_l, .inl (γ.2.1 0, 5, .inl ghs_l_758)), (mds_c, .inl (γ.2.1 0, 5, .inl ghs_c_759)), (mds_g, .inl (γ.2.1 0, 5, .inl ghs_g_760)), (mds_r, .inl (γ.2.1 1, 5, .inr (.inl ghs_r_761))), (mds_k, .inl (γ.2.1 0, 40, .inl ghs_k_762)), (mds_b, .inl (γ.2.1 0, 8, .inl ghs_b_763)), (mdy, .inl (γ.2.1 0, 40, .inl ghy_764)), (mdq, .inl (γ.2.1 0, 8, .inl ghq_765)), (x2, .inr (3, [.ref x2s, .ref x2y, .ref x2q, .int 0, .int 0, .int 0])), (x2s, .inr (7, [.ref x2s_l, .ref x2s_c, .ref x2s_g, .ref x2s_r, .ref x2s_k, .ref x2s_b, .int 0, .int 0, .int 0])), (x2s_l, .inl (γ.2.1 0, 5, .inl fx2s_l)), (x2s_c, .inl (γ.2.1 0, 5, .inl fx2s_c)), (x2s_g, .inl (γ.2.1 0, 5, .inl fx2s_g)), (x2s_r, .inl (γ.2.1 1, 5, .inr (.inl fx2s_r))), (x2s_k, .inl (γ.2.1 0, 40, .inl fx2s_k)), (x2s_b, .inl (γ.2.1 0, 8, .inl fx2s_b)), (x2y, .inl (γ.2.1 0, 40, .inl fx2y)), (x2q, .inl (γ.2.1 0, 8, .inl fx2q))] s H locs := hw
  refine lv_iconst (v := 1) hx hb dX11_mark_35 (by decide) ?_
  exact k_zret hC hr hlocks rfl hw [] rfl rfl ⟨rfl, rfl⟩ (by decide) (by decide) dX11_mark_36

set_option maxHeartbeats 4000000 in
set_option maxRecDepth 100000 in
theorem c_X11_mark_3_1 (γ : kΓ) (l : Launch) (x : Nat) (x0 : Nat) (x1 : Nat) (x2 : Nat) (x3 : Nat) (x4 : Nat) (x5 : Nat) (x6 : Nat) (x7 : Nat) (x8 : Nat) (x9 : Nat) (x10 : Nat) (fm : Nat → Option Nat) (md : Nat) (mds : Nat) (mdy : Nat) (mdq : Nat) (hm : fm 3 = some md) : kM γ l yX11_mark cX11_mark 4 ((some .boolean)) ({ frames := 0, cells := 0, slots := 0, locals := 0 } : Room) [.ref x, .int 3, .int 1] [(x, .inr (10, [.ref x0, .ref x1, .ref x2, .ref x3, .ref x4, .ref x5, .ref x6, .ref x7, .ref x8, .ref x9, .ref x10])), (x3, .inl (γ.2.1 4, 4, .inr (.inr (.inr (.inr fm))))), (md, .inr (3, [.ref mds, .ref mdy, .ref mdq, .int 0, .int 0, .int 0]))] (fun r w1 => r = some (.int 0) ∧ w1 = []) := by
  refine k_ofW (by decide) (Nat.le_of_ble_eq_true rfl) ?_
  intro p e s m below meth c A ls hC hr hlocks hname hw hl
  have hx := hC.1
  have hb := hC.2.1
  have hl : lv_has ls 4 [(0, .ref x), (1, .int 3), (2, .int 1)] := hl
  refine lv_iload_n hx hb dX11_mark_0 rfl (lv_at hl 1 rfl) ?_
  refine lv_if_lt (tgt := 9) hx hb dX11_mark_1 (by decide) (fun h => absurd h (by decide)) (fun _ => ?_)
  refine lv_iload_n hx hb dX11_mark_4 rfl (lv_at hl 1 rfl) ?_
  refine lv_iconst (v := 4) hx hb dX11_mark_5 (by decide) ?_
  refine lv_icmp_lt (tgt := 11) hx hb dX11_mark_6 (by decide) (fun _ => ?_) (fun h => absurd (by decide) h)
  refine lv_aload_n hx hb dX11_mark_11 rfl (lv_at hl 0 rfl) ?_
  refine fg_RX11_30 hC hw 0 rfl rfl dX11_mark_12 ?_
  refine lv_iload_n hx hb dX11_mark_15 rfl (lv_at hl 1 rfl) ?_
  refine k_aldq hC hw 1 4 rfl rfl (k_in0 (by decide)) (v := .ref md) (by rw [show (3 : Int32).toNatClampNeg = 3 from by decide, hm]; rfl) dX11_mark_16 ?_
  refine lv_astore_n (lv' := [(3, .ref md), (0, .ref x), (1, .int 3), (2, .int 1)]) hx hb dX11_mark_17 rfl hl (by decide) rfl (fun ls hl => ?_)
  refine lv_iload_n hx hb dX11_mark_18 rfl (lv_at hl 3 rfl) ?_
  refine lv_if_ne (tgt := 37) hx hb dX11_mark_19 (by decide) (fun _ => ?_) (fun h => absurd h (by decide))
  refine lv_aload_n hx hb dX11_mark_37 rfl (lv_at hl 0 rfl) ?_
  refine fg_RX11_104 hC hw 2 rfl rfl dX11_mark_38 ?_
  refine lv_if_ne (tgt := 46) hx hb dX11_mark_41 (by decide) (fun h => absurd rfl h) (fun _ => ?_)
  refine lv_iconst (v := 0) hx hb dX11_mark_44 (by decide) ?_
  exact k_zret hC hr hlocks rfl hw [] rfl rfl ⟨rfl, rfl⟩ (by decide) (by decide) dX11_mark_45

set_option maxHeartbeats 4000000 in
set_option maxRecDepth 100000 in
theorem c_X11_mark_lo (γ : kΓ) (l : Launch) (x : Nat) (x0 : Nat) (x1 : Nat) (x2 : Nat) (x3 : Nat) (x4 : Nat) (x5 : Nat) (x6 : Nat) (x7 : Nat) (x8 : Nat) (x9 : Nat) (x10 : Nat) (t : Int32) (u : Int32) (ht : t < 0) : kM γ l yX11_mark cX11_mark 4 ((some .boolean)) ({ frames := 0, cells := 0, slots := 0, locals := 0 } : Room) [.ref x, .int t, .int u] [(x, .inr (10, [.ref x0, .ref x1, .ref x2, .ref x3, .ref x4, .ref x5, .ref x6, .ref x7, .ref x8, .ref x9, .ref x10]))] (fun r w1 => r = some (.int 0) ∧ w1 = []) := by
  refine k_ofW (by decide) (Nat.le_of_ble_eq_true rfl) ?_
  intro p e s m below meth c A ls hC hr hlocks hname hw hl
  have hx := hC.1
  have hb := hC.2.1
  have hl : lv_has ls 4 [(0, .ref x), (1, .int t), (2, .int u)] := hl
  refine lv_iload_n hx hb dX11_mark_0 rfl (lv_at hl 1 rfl) ?_
  refine lv_if_lt (tgt := 9) hx hb dX11_mark_1 (by decide) (fun _ => ?_) (fun h => absurd ht h)
  refine lv_iconst (v := 0) hx hb dX11_mark_9 (by decide) ?_
  exact k_zret hC hr hlocks rfl hw [] rfl rfl ⟨rfl, rfl⟩ (by decide) (by decide) dX11_mark_10

set_option maxHeartbeats 4000000 in
set_option maxRecDepth 100000 in
theorem c_X11_mark_hi (γ : kΓ) (l : Launch) (x : Nat) (x0 : Nat) (x1 : Nat) (x2 : Nat) (x3 : Nat) (x4 : Nat) (x5 : Nat) (x6 : Nat) (x7 : Nat) (x8 : Nat) (x9 : Nat) (x10 : Nat) (t : Int32) (u : Int32) (ht : ¬ t < 0) (hu : ¬ t < 4) : kM γ l yX11_mark cX11_mark 4 ((some .boolean)) ({ frames := 0, cells := 0, slots := 0, locals := 0 } : Room) [.ref x, .int t, .int u] [(x, .inr (10, [.ref x0, .ref x1, .ref x2, .ref x3, .ref x4, .ref x5, .ref x6, .ref x7, .ref x8, .ref x9, .ref x10]))] (fun r w1 => r = some (.int 0) ∧ w1 = []) := by
  refine k_ofW (by decide) (Nat.le_of_ble_eq_true rfl) ?_
  intro p e s m below meth c A ls hC hr hlocks hname hw hl
  have hx := hC.1
  have hb := hC.2.1
  have hl : lv_has ls 4 [(0, .ref x), (1, .int t), (2, .int u)] := hl
  refine lv_iload_n hx hb dX11_mark_0 rfl (lv_at hl 1 rfl) ?_
  refine lv_if_lt (tgt := 9) hx hb dX11_mark_1 (by decide) (fun h => absurd h ht) (fun _ => ?_)
  refine lv_iload_n hx hb dX11_mark_4 rfl (lv_at hl 1 rfl) ?_
  refine lv_iconst (v := 4) hx hb dX11_mark_5 (by decide) ?_
  refine lv_icmp_lt (tgt := 11) hx hb dX11_mark_6 (by decide) (fun h => absurd h hu) (fun _ => ?_)
  refine lv_iconst (v := 0) hx hb dX11_mark_9 (by decide) ?_
  exact k_zret hC hr hlocks rfl hw [] rfl rfl ⟨rfl, rfl⟩ (by decide) (by decide) dX11_mark_10


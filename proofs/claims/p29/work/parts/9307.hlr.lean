theorem dL_rests_0 : decode cL_rests 0 = .ok (.aload 5, 2) := by decide +kernel
theorem dL_rests_2 : decode cL_rests 2 = .ok (.iconst 0, 1) := by decide +kernel
theorem dL_rests_3 : decode cL_rests 3 = .ok (.aload_n 0, 1) := by decide +kernel
theorem dL_rests_4 : decode cL_rests 4 = .ok (.iload_n 1, 1) := by decide +kernel
theorem dL_rests_5 : decode cL_rests 5 = .ok (.iload_n 2, 1) := by decide +kernel
theorem dL_rests_6 : decode cL_rests 6 = .ok (.iload_n 3, 1) := by decide +kernel
theorem dL_rests_7 : decode cL_rests 7 = .ok (.iload 4, 2) := by decide +kernel
theorem dL_rests_9 : decode cL_rests 9 = .ok (.invokevirtual 19, 3) := by decide +kernel
theorem dL_rests_12 : decode cL_rests 12 = .ok (.i2l, 1) := by decide +kernel
theorem dL_rests_13 : decode cL_rests 13 = .ok (.lastore, 1) := by decide +kernel
theorem dL_rests_14 : decode cL_rests 14 = .ok (.goto 7, 3) := by decide +kernel
theorem dL_rests_17 : decode cL_rests 17 = .ok (.astore 6, 2) := by decide +kernel
theorem dL_rests_19 : decode cL_rests 19 = .ok (.iconst 1, 1) := by decide +kernel
theorem dL_rests_20 : decode cL_rests 20 = .ok (.ireturn, 1) := by decide +kernel
theorem dL_rests_21 : decode cL_rests 21 = .ok (.iconst 0, 1) := by decide +kernel
theorem dL_rests_22 : decode cL_rests 22 = .ok (.ireturn, 1) := by decide +kernel
theorem dX12_thrown_0 : decode cX12_thrown 0 = .ok (.aload_n 0, 1) := by decide +kernel
theorem dX12_thrown_1 : decode cX12_thrown 1 = .ok (.getfield 143, 3) := by decide +kernel
theorem dX12_thrown_4 : decode cX12_thrown 4 = .ok (.ireturn, 1) := by decide +kernel
set_option maxHeartbeats 4000000 in
set_option maxRecDepth 100000 in
theorem c_L_rests_r (γ : kΓ) (l : Launch) (hl9 : l.stackTraces = false) (x : Nat) (x0 : Nat) (x1 : Nat) (x2 : Nat) (x3 : Nat) (x4 : Nat) (x5 : Nat) (x6 : Nat) (x7 : Nat) (x8 : Nat) (x9 : Nat) (x10 : Nat) (bo : Int32) (lo : Int32) (ge : Int32) (wh : Int32) (v : Int32) (ou : Nat) (fo : Nat → Int64) (hb0 : ¬ bo < 0) (hb1 : ¬ 9 < bo) (hl0 : ¬ lo < 0) (hl1 : ¬ 9 < lo) (hg0 : ¬ ge < 0) (hg1 : ¬ 9 < ge) (hw0 : ¬ wh < -1) (hK : kR bo lo ge wh 4 0 = some v) : kMW γ l yL_rests cL_rests 7 (some .int) [(0, 14, 17, 13)] ({ frames := 3, cells := 0, slots := 0, locals := 76 } : Room) [.ref x, .int bo, .int lo, .int ge, .int wh, .ref ou] [(x, .inr (10, [.ref x0, .ref x1, .ref x2, .ref x3, .ref x4, .ref x5, .ref x6, .ref x7, .ref x8, .ref x9, .ref x10])), (ou, .inl (γ.2.1 1, 1, .inr (.inl fo)))] (fun r w1 => ∃ (fo9 : Nat → Int64), r = some (.int 0) ∧ w1 = [(x, .inr (10, [.ref x0, .ref x1, .ref x2, .ref x3, .ref x4, .ref x5, .ref x6, .ref x7, .ref x8, .ref x9, .ref x10])), (ou, .inl (γ.2.1 1, 1, .inr (.inl fo9)))] ∧ (fo9 0 = (v : Int32).toInt64)) := by
  refine k_ofWW (by decide) (Nat.le_of_ble_eq_true rfl) ?_
  intro p e s m below meth c A ls hC hr hlocks htab hw hl
  have hx := hC.1
  have hb := hC.2.1
  have hl : lv_has ls 7 [(0, .ref x), (1, .int bo), (2, .int lo), (3, .int ge), (4, .int wh), (5, .ref ou)] := hl
  refine lv_aload hx hb dL_rests_0 (lv_at hl 5 rfl) ?_
  refine lv_iconst (v := 0) hx hb dL_rests_2 (by decide) ?_
  refine lv_aload_n hx hb dL_rests_3 rfl (lv_at hl 0 rfl) ?_
  refine lv_iload_n hx hb dL_rests_4 rfl (lv_at hl 1 rfl) ?_
  refine lv_iload_n hx hb dL_rests_5 rfl (lv_at hl 2 rfl) ?_
  refine lv_iload_n hx hb dL_rests_6 rfl (lv_at hl 3 rfl) ?_
  refine lv_iload hx hb dL_rests_7 (lv_at hl 4 rfl) ?_
  refine k_V (wr := [(x, .inr (10, [.ref x0, .ref x1, .ref x2, .ref x3, .ref x4, .ref x5, .ref x6, .ref x7, .ref x8, .ref x9, .ref x10])), (ou, .inl (γ.2.1 1, 1, .inr (.inl fo)))]) 4 gw_1149 gw_1150 gw_1151 gw_1 gw_1152 hd_X11_rests hC hw (c_X11_rests_r γ l x x0 x1 x2 x3 x4 x5 x6 x7 x8 x9 x10 bo lo ge wh v hb0 hb1 hl0 hl1 hg0 hg1 hw0 hK) ⟨by decide, by decide⟩ ⟨by decide, by decide⟩ hl.1 rfl 0 rfl rfl rfl (Nat.le_of_ble_eq_true rfl) [] [0, 1] rfl rfl rfl rfl (by decide) dL_rests_9 (fun r w1 H locs hq hw => ?_)
  obtain ⟨rfl, rfl⟩ := hq
  have hw : kW γ A [(x, .inr (10, [.ref x0, .ref x1, .ref x2, .ref x3, .ref x4, .ref x5, .ref x6, .ref x7, .ref x8, .ref x9, .ref x10])), (ou, .inl (γ.2.1 1, 1, .inr (.inl fo)))] s H locs := hw
  refine W.eq (g2 := F0 m 12 ls [.int v, .int 0, .ref ou]) rfl ?_
  refine lv_i2l hx hb dL_rests_12 rfl ?_
  refine lv_topl (fun x_2018 ex_2018 => ?_)
  refine k_last hC hw 1 rfl (k_in0 (by decide)) dL_rests_13 (fun H locs hw => ?_)
  obtain ⟨f_2019, ef_2019⟩ : ∃ g, g = vp_updL fo (0 : Int32).toNatClampNeg x_2018 := ⟨_, rfl⟩
  have hw : kW γ A [(x, .inr (10, [.ref x0, .ref x1, .ref x2, .ref x3, .ref x4, .ref x5, .ref x6, .ref x7, .ref x8, .ref x9, .ref x10])), (ou, .inl (γ.2.1 1, 1, .inr (.inl f_2019)))] s H locs := by rw [ef_2019]; exact hw
  have h_2020 : f_2019 0 = x_2018 := by rw [ef_2019]; rfl
  refine lv_goto (tgt := 21) hx hb dL_rests_14 (by decide) ?_
  refine lv_iconst (v := 0) hx hb dL_rests_21 (by decide) ?_
  exact k_iret hC hr hlocks hw [0, 1] rfl rfl ⟨f_2019, rfl, rfl, (by rw [ef_2019, ex_2018]; rfl)⟩ (by decide) (by decide) dL_rests_22

set_option maxHeartbeats 4000000 in
set_option maxRecDepth 100000 in
theorem c_L_rests_n (γ : kΓ) (l : Launch) (hl9 : l.stackTraces = false) (x : Nat) (x0 : Nat) (x1 : Nat) (x2 : Nat) (x3 : Nat) (x4 : Nat) (x5 : Nat) (x6 : Nat) (x7 : Nat) (x8 : Nat) (x9 : Nat) (x10 : Nat) (bo : Int32) (lo : Int32) (ge : Int32) (wh : Int32) (ou : Nat) (fo : Nat → Int64) (hb0 : ¬ bo < 0) (hb1 : ¬ 9 < bo) (hl0 : ¬ lo < 0) (hl1 : ¬ 9 < lo) (hg0 : ¬ ge < 0) (hg1 : ¬ 9 < ge) (hw0 : ¬ wh < -1) (hK : kR bo lo ge wh 4 0 = none) : kMW γ l yL_rests cL_rests 7 (some .int) [(0, 14, 17, 13)] ({ frames := 7, cells := 1, slots := 6, locals := 128 } : Room) [.ref x, .int bo, .int lo, .int ge, .int wh, .ref ou] [(x, .inr (10, [.ref x0, .ref x1, .ref x2, .ref x3, .ref x4, .ref x5, .ref x6, .ref x7, .ref x8, .ref x9, .ref x10])), (ou, .inl (γ.2.1 1, 1, .inr (.inl fo)))] (fun r w1 => r = some (.int 1) ∧ w1 = [(x, .inr (10, [.ref x0, .ref x1, .ref x2, .ref x3, .ref x4, .ref x5, .ref x6, .ref x7, .ref x8, .ref x9, .ref x10])), (ou, .inl (γ.2.1 1, 1, .inr (.inl fo)))]) := by
  refine k_ofWW (by decide) (Nat.le_of_ble_eq_true rfl) ?_
  intro p e s m below meth c A ls hC hr hlocks htab hw hl
  have hx := hC.1
  have hb := hC.2.1
  have hl : lv_has ls 7 [(0, .ref x), (1, .int bo), (2, .int lo), (3, .int ge), (4, .int wh), (5, .ref ou)] := hl
  refine lv_aload hx hb dL_rests_0 (lv_at hl 5 rfl) ?_
  refine lv_iconst (v := 0) hx hb dL_rests_2 (by decide) ?_
  refine lv_aload_n hx hb dL_rests_3 rfl (lv_at hl 0 rfl) ?_
  refine lv_iload_n hx hb dL_rests_4 rfl (lv_at hl 1 rfl) ?_
  refine lv_iload_n hx hb dL_rests_5 rfl (lv_at hl 2 rfl) ?_
  refine lv_iload_n hx hb dL_rests_6 rfl (lv_at hl 3 rfl) ?_
  refine lv_iload hx hb dL_rests_7 (lv_at hl 4 rfl) ?_
  refine k_VX (wr := [(x, .inr (10, [.ref x0, .ref x1, .ref x2, .ref x3, .ref x4, .ref x5, .ref x6, .ref x7, .ref x8, .ref x9, .ref x10])), (ou, .inl (γ.2.1 1, 1, .inr (.inl fo)))]) 4 gw_1149 gw_1150 gw_1151 gw_1 gw_1152 hd_X11_rests hC hw (c_X11_rests_n γ l hl9 x x0 x1 x2 x3 x4 x5 x6 x7 x8 x9 x10 bo lo ge wh hb0 hb1 hl0 hl1 hg0 hg1 hw0 hK) ⟨by decide, by decide⟩ ⟨by decide, by decide⟩ hl.1 rfl 0 rfl rfl rfl (Nat.le_of_ble_eq_true rfl) [] [0, 1] rfl rfl rfl rfl (by decide) dL_rests_9 _ _ htab (by decide) (by decide) gw_1024 nw_1031 (fun q9 H locs hw => ?_)
  have hw : kW γ A [(x, .inr (10, [.ref x0, .ref x1, .ref x2, .ref x3, .ref x4, .ref x5, .ref x6, .ref x7, .ref x8, .ref x9, .ref x10])), (ou, .inl (γ.2.1 1, 1, .inr (.inl fo)))] s H locs := hw
  refine W.eq (g2 := F0 m 17 ls [.ref q9]) rfl ?_
  refine W.widen (k := 1) (n := 6) (by decide) (by decide) ?_
  refine lv_astore (lv' := [(6, .ref q9), (0, .ref x), (1, .int bo), (2, .int lo), (3, .int ge), (4, .int wh), (5, .ref ou)]) hx hb dL_rests_17 hl (by decide) rfl (fun ls hl => ?_)
  refine lv_iconst (v := 1) hx hb dL_rests_19 (by decide) ?_
  exact k_iret hC hr hlocks hw [0, 1] rfl rfl ⟨rfl, rfl⟩ (by decide) (by decide) dL_rests_20

set_option maxHeartbeats 4000000 in
set_option maxRecDepth 100000 in
theorem c_L_rests_bo_l (γ : kΓ) (l : Launch) (hl9 : l.stackTraces = false) (x : Nat) (x0 : Nat) (x1 : Nat) (x2 : Nat) (x3 : Nat) (x4 : Nat) (x5 : Nat) (x6 : Nat) (x7 : Nat) (x8 : Nat) (x9 : Nat) (x10 : Nat) (bo : Int32) (lo : Int32) (ge : Int32) (wh : Int32) (ou : Nat) (fo : Nat → Int64) (h1 : bo < 0) : kMW γ l yL_rests cL_rests 7 (some .int) [(0, 14, 17, 13)] ({ frames := 7, cells := 1, slots := 6, locals := 128 } : Room) [.ref x, .int bo, .int lo, .int ge, .int wh, .ref ou] [(x, .inr (10, [.ref x0, .ref x1, .ref x2, .ref x3, .ref x4, .ref x5, .ref x6, .ref x7, .ref x8, .ref x9, .ref x10])), (ou, .inl (γ.2.1 1, 1, .inr (.inl fo)))] (fun r w1 => r = some (.int 1) ∧ w1 = [(x, .inr (10, [.ref x0, .ref x1, .ref x2, .ref x3, .ref x4, .ref x5, .ref x6, .ref x7, .ref x8, .ref x9, .ref x10])), (ou, .inl (γ.2.1 1, 1, .inr (.inl fo)))]) := by
  refine k_ofWW (by decide) (Nat.le_of_ble_eq_true rfl) ?_
  intro p e s m below meth c A ls hC hr hlocks htab hw hl
  have hx := hC.1
  have hb := hC.2.1
  have hl : lv_has ls 7 [(0, .ref x), (1, .int bo), (2, .int lo), (3, .int ge), (4, .int wh), (5, .ref ou)] := hl
  refine lv_aload hx hb dL_rests_0 (lv_at hl 5 rfl) ?_
  refine lv_iconst (v := 0) hx hb dL_rests_2 (by decide) ?_
  refine lv_aload_n hx hb dL_rests_3 rfl (lv_at hl 0 rfl) ?_
  refine lv_iload_n hx hb dL_rests_4 rfl (lv_at hl 1 rfl) ?_
  refine lv_iload_n hx hb dL_rests_5 rfl (lv_at hl 2 rfl) ?_
  refine lv_iload_n hx hb dL_rests_6 rfl (lv_at hl 3 rfl) ?_
  refine lv_iload hx hb dL_rests_7 (lv_at hl 4 rfl) ?_
  refine k_VX (wr := [(x, .inr (10, [.ref x0, .ref x1, .ref x2, .ref x3, .ref x4, .ref x5, .ref x6, .ref x7, .ref x8, .ref x9, .ref x10])), (ou, .inl (γ.2.1 1, 1, .inr (.inl fo)))]) 4 gw_1149 gw_1150 gw_1151 gw_1 gw_1152 hd_X11_rests hC hw (c_X11_rests_bo_l γ l hl9 x x0 x1 x2 x3 x4 x5 x6 x7 x8 x9 x10 bo lo ge wh h1) ⟨by decide, by decide⟩ ⟨by decide, by decide⟩ hl.1 rfl 0 rfl rfl rfl (Nat.le_of_ble_eq_true rfl) [] [0, 1] rfl rfl rfl rfl (by decide) dL_rests_9 _ _ htab (by decide) (by decide) gw_1024 nw_1031 (fun q9 H locs hw => ?_)
  have hw : kW γ A [(x, .inr (10, [.ref x0, .ref x1, .ref x2, .ref x3, .ref x4, .ref x5, .ref x6, .ref x7, .ref x8, .ref x9, .ref x10])), (ou, .inl (γ.2.1 1, 1, .inr (.inl fo)))] s H locs := hw
  refine W.eq (g2 := F0 m 17 ls [.ref q9]) rfl ?_
  refine W.widen (k := 1) (n := 6) (by decide) (by decide) ?_
  refine lv_astore (lv' := [(6, .ref q9), (0, .ref x), (1, .int bo), (2, .int lo), (3, .int ge), (4, .int wh), (5, .ref ou)]) hx hb dL_rests_17 hl (by decide) rfl (fun ls hl => ?_)
  refine lv_iconst (v := 1) hx hb dL_rests_19 (by decide) ?_
  exact k_iret hC hr hlocks hw [0, 1] rfl rfl ⟨rfl, rfl⟩ (by decide) (by decide) dL_rests_20

set_option maxHeartbeats 4000000 in
set_option maxRecDepth 100000 in
theorem c_L_rests_bo_h (γ : kΓ) (l : Launch) (hl9 : l.stackTraces = false) (x : Nat) (x0 : Nat) (x1 : Nat) (x2 : Nat) (x3 : Nat) (x4 : Nat) (x5 : Nat) (x6 : Nat) (x7 : Nat) (x8 : Nat) (x9 : Nat) (x10 : Nat) (bo : Int32) (lo : Int32) (ge : Int32) (wh : Int32) (ou : Nat) (fo : Nat → Int64) (h1 : ¬ bo < 0) (h2 : 9 < bo) : kMW γ l yL_rests cL_rests 7 (some .int) [(0, 14, 17, 13)] ({ frames := 7, cells := 1, slots := 6, locals := 128 } : Room) [.ref x, .int bo, .int lo, .int ge, .int wh, .ref ou] [(x, .inr (10, [.ref x0, .ref x1, .ref x2, .ref x3, .ref x4, .ref x5, .ref x6, .ref x7, .ref x8, .ref x9, .ref x10])), (ou, .inl (γ.2.1 1, 1, .inr (.inl fo)))] (fun r w1 => r = some (.int 1) ∧ w1 = [(x, .inr (10, [.ref x0, .ref x1, .ref x2, .ref x3, .ref x4, .ref x5, .ref x6, .ref x7, .ref x8, .ref x9, .ref x10])), (ou, .inl (γ.2.1 1, 1, .inr (.inl fo)))]) := by
  refine k_ofWW (by decide) (Nat.le_of_ble_eq_true rfl) ?_
  intro p e s m below meth c A ls hC hr hlocks htab hw hl
  have hx := hC.1
  have hb := hC.2.1
  have hl : lv_has ls 7 [(0, .ref x), (1, .int bo), (2, .int lo), (3, .int ge), (4, .int wh), (5, .ref ou)] := hl
  refine lv_aload hx hb dL_rests_0 (lv_at hl 5 rfl) ?_
  refine lv_iconst (v := 0) hx hb dL_rests_2 (by decide) ?_
  refine lv_aload_n hx hb dL_rests_3 rfl (lv_at hl 0 rfl) ?_
  refine lv_iload_n hx hb dL_rests_4 rfl (lv_at hl 1 rfl) ?_
  refine lv_iload_n hx hb dL_rests_5 rfl (lv_at hl 2 rfl) ?_
  refine lv_iload_n hx hb dL_rests_6 rfl (lv_at hl 3 rfl) ?_
  refine lv_iload hx hb dL_rests_7 (lv_at hl 4 rfl) ?_
  refine k_VX (wr := [(x, .inr (10, [.ref x0, .ref x1, .ref x2, .ref x3, .ref x4, .ref x5, .ref x6, .ref x7, .ref x8, .ref x9, .ref x10])), (ou, .inl (γ.2.1 1, 1, .inr (.inl fo)))]) 4 gw_1149 gw_1150 gw_1151 gw_1 gw_1152 hd_X11_rests hC hw (c_X11_rests_bo_h γ l hl9 x x0 x1 x2 x3 x4 x5 x6 x7 x8 x9 x10 bo lo ge wh h1 h2) ⟨by decide, by decide⟩ ⟨by decide, by decide⟩ hl.1 rfl 0 rfl rfl rfl (Nat.le_of_ble_eq_true rfl) [] [0, 1] rfl rfl rfl rfl (by decide) dL_rests_9 _ _ htab (by decide) (by decide) gw_1024 nw_1031 (fun q9 H locs hw => ?_)
  have hw : kW γ A [(x, .inr (10, [.ref x0, .ref x1, .ref x2, .ref x3, .ref x4, .ref x5, .ref x6, .ref x7, .ref x8, .ref x9, .ref x10])), (ou, .inl (γ.2.1 1, 1, .inr (.inl fo)))] s H locs := hw
  refine W.eq (g2 := F0 m 17 ls [.ref q9]) rfl ?_
  refine W.widen (k := 1) (n := 6) (by decide) (by decide) ?_
  refine lv_astore (lv' := [(6, .ref q9), (0, .ref x), (1, .int bo), (2, .int lo), (3, .int ge), (4, .int wh), (5, .ref ou)]) hx hb dL_rests_17 hl (by decide) rfl (fun ls hl => ?_)
  refine lv_iconst (v := 1) hx hb dL_rests_19 (by decide) ?_
  exact k_iret hC hr hlocks hw [0, 1] rfl rfl ⟨rfl, rfl⟩ (by decide) (by decide) dL_rests_20

set_option maxHeartbeats 4000000 in
set_option maxRecDepth 100000 in
theorem c_L_rests_lo_l (γ : kΓ) (l : Launch) (hl9 : l.stackTraces = false) (x : Nat) (x0 : Nat) (x1 : Nat) (x2 : Nat) (x3 : Nat) (x4 : Nat) (x5 : Nat) (x6 : Nat) (x7 : Nat) (x8 : Nat) (x9 : Nat) (x10 : Nat) (bo : Int32) (lo : Int32) (ge : Int32) (wh : Int32) (ou : Nat) (fo : Nat → Int64) (hb0 : ¬ bo < 0) (hb1 : ¬ 9 < bo) (h1 : lo < 0) : kMW γ l yL_rests cL_rests 7 (some .int) [(0, 14, 17, 13)] ({ frames := 7, cells := 1, slots := 6, locals := 128 } : Room) [.ref x, .int bo, .int lo, .int ge, .int wh, .ref ou] [(x, .inr (10, [.ref x0, .ref x1, .ref x2, .ref x3, .ref x4, .ref x5, .ref x6, .ref x7, .ref x8, .ref x9, .ref x10])), (ou, .inl (γ.2.1 1, 1, .inr (.inl fo)))] (fun r w1 => r = some (.int 1) ∧ w1 = [(x, .inr (10, [.ref x0, .ref x1, .ref x2, .ref x3, .ref x4, .ref x5, .ref x6, .ref x7, .ref x8, .ref x9, .ref x10])), (ou, .inl (γ.2.1 1, 1, .inr (.inl fo)))]) := by
  refine k_ofWW (by decide) (Nat.le_of_ble_eq_true rfl) ?_
  intro p e s m below meth c A ls hC hr hlocks htab hw hl
  have hx := hC.1
  have hb := hC.2.1
  have hl : lv_has ls 7 [(0, .ref x), (1, .int bo), (2, .int lo), (3, .int ge), (4, .int wh), (5, .ref ou)] := hl
  refine lv_aload hx hb dL_rests_0 (lv_at hl 5 rfl) ?_
  refine lv_iconst (v := 0) hx hb dL_rests_2 (by decide) ?_
  refine lv_aload_n hx hb dL_rests_3 rfl (lv_at hl 0 rfl) ?_
  refine lv_iload_n hx hb dL_rests_4 rfl (lv_at hl 1 rfl) ?_
  refine lv_iload_n hx hb dL_rests_5 rfl (lv_at hl 2 rfl) ?_
  refine lv_iload_n hx hb dL_rests_6 rfl (lv_at hl 3 rfl) ?_
  refine lv_iload hx hb dL_rests_7 (lv_at hl 4 rfl) ?_
  refine k_VX (wr := [(x, .inr (10, [.ref x0, .ref x1, .ref x2, .ref x3, .ref x4, .ref x5, .ref x6, .ref x7, .ref x8, .ref x9, .ref x10])), (ou, .inl (γ.2.1 1, 1, .inr (.inl fo)))]) 4 gw_1149 gw_1150 gw_1151 gw_1 gw_1152 hd_X11_rests hC hw (c_X11_rests_lo_l γ l hl9 x x0 x1 x2 x3 x4 x5 x6 x7 x8 x9 x10 bo lo ge wh hb0 hb1 h1) ⟨by decide, by decide⟩ ⟨by decide, by decide⟩ hl.1 rfl 0 rfl rfl rfl (Nat.le_of_ble_eq_true rfl) [] [0, 1] rfl rfl rfl rfl (by decide) dL_rests_9 _ _ htab (by decide) (by decide) gw_1024 nw_1031 (fun q9 H locs hw => ?_)
  have hw : kW γ A [(x, .inr (10, [.ref x0, .ref x1, .ref x2, .ref x3, .ref x4, .ref x5, .ref x6, .ref x7, .ref x8, .ref x9, .ref x10])), (ou, .inl (γ.2.1 1, 1, .inr (.inl fo)))] s H locs := hw
  refine W.eq (g2 := F0 m 17 ls [.ref q9]) rfl ?_
  refine W.widen (k := 1) (n := 6) (by decide) (by decide) ?_
  refine lv_astore (lv' := [(6, .ref q9), (0, .ref x), (1, .int bo), (2, .int lo), (3, .int ge), (4, .int wh), (5, .ref ou)]) hx hb dL_rests_17 hl (by decide) rfl (fun ls hl => ?_)
  refine lv_iconst (v := 1) hx hb dL_rests_19 (by decide) ?_
  exact k_iret hC hr hlocks hw [0, 1] rfl rfl ⟨rfl, rfl⟩ (by decide) (by decide) dL_rests_20

set_option maxHeartbeats 4000000 in
set_option maxRecDepth 100000 in
theorem c_L_rests_lo_h (γ : kΓ) (l : Launch) (hl9 : l.stackTraces = false) (x : Nat) (x0 : Nat) (x1 : Nat) (x2 : Nat) (x3 : Nat) (x4 : Nat) (x5 : Nat) (x6 : Nat) (x7 : Nat) (x8 : Nat) (x9 : Nat) (x10 : Nat) (bo : Int32) (lo : Int32) (ge : Int32) (wh : Int32) (ou : Nat) (fo : Nat → Int64) (hb0 : ¬ bo < 0) (hb1 : ¬ 9 < bo) (h1 : ¬ lo < 0) (h2 : 9 < lo) : kMW γ l yL_rests cL_rests 7 (some .int) [(0, 14, 17, 13)] ({ frames := 7, cells := 1, slots := 6, locals := 128 } : Room) [.ref x, .int bo, .int lo, .int ge, .int wh, .ref ou] [(x, .inr (10, [.ref x0, .ref x1, .ref x2, .ref x3, .ref x4, .ref x5, .ref x6, .ref x7, .ref x8, .ref x9, .ref x10])), (ou, .inl (γ.2.1 1, 1, .inr (.inl fo)))] (fun r w1 => r = some (.int 1) ∧ w1 = [(x, .inr (10, [.ref x0, .ref x1, .ref x2, .ref x3, .ref x4, .ref x5, .ref x6, .ref x7, .ref x8, .ref x9, .ref x10])), (ou, .inl (γ.2.1 1, 1, .inr (.inl fo)))]) := by
  refine k_ofWW (by decide) (Nat.le_of_ble_eq_true rfl) ?_
  intro p e s m below meth c A ls hC hr hlocks htab hw hl
  have hx := hC.1
  have hb := hC.2.1
  have hl : lv_has ls 7 [(0, .ref x), (1, .int bo), (2, .int lo), (3, .int ge), (4, .int wh), (5, .ref ou)] := hl
  refine lv_aload hx hb dL_rests_0 (lv_at hl 5 rfl) ?_
  refine lv_iconst (v := 0) hx hb dL_rests_2 (by decide) ?_
  refine lv_aload_n hx hb dL_rests_3 rfl (lv_at hl 0 rfl) ?_
  refine lv_iload_n hx hb dL_rests_4 rfl (lv_at hl 1 rfl) ?_
  refine lv_iload_n hx hb dL_rests_5 rfl (lv_at hl 2 rfl) ?_
  refine lv_iload_n hx hb dL_rests_6 rfl (lv_at hl 3 rfl) ?_
  refine lv_iload hx hb dL_rests_7 (lv_at hl 4 rfl) ?_
  refine k_VX (wr := [(x, .inr (10, [.ref x0, .ref x1, .ref x2, .ref x3, .ref x4, .ref x5, .ref x6, .ref x7, .ref x8, .ref x9, .ref x10])), (ou, .inl (γ.2.1 1, 1, .inr (.inl fo)))]) 4 gw_1149 gw_1150 gw_1151 gw_1 gw_1152 hd_X11_rests hC hw (c_X11_rests_lo_h γ l hl9 x x0 x1 x2 x3 x4 x5 x6 x7 x8 x9 x10 bo lo ge wh hb0 hb1 h1 h2) ⟨by decide, by decide⟩ ⟨by decide, by decide⟩ hl.1 rfl 0 rfl rfl rfl (Nat.le_of_ble_eq_true rfl) [] [0, 1] rfl rfl rfl rfl (by decide) dL_rests_9 _ _ htab (by decide) (by decide) gw_1024 nw_1031 (fun q9 H locs hw => ?_)
  have hw : kW γ A [(x, .inr (10, [.ref x0, .ref x1, .ref x2, .ref x3, .ref x4, .ref x5, .ref x6, .ref x7, .ref x8, .ref x9, .ref x10])), (ou, .inl (γ.2.1 1, 1, .inr (.inl fo)))] s H locs := hw
  refine W.eq (g2 := F0 m 17 ls [.ref q9]) rfl ?_
  refine W.widen (k := 1) (n := 6) (by decide) (by decide) ?_
  refine lv_astore (lv' := [(6, .ref q9), (0, .ref x), (1, .int bo), (2, .int lo), (3, .int ge), (4, .int wh), (5, .ref ou)]) hx hb dL_rests_17 hl (by decide) rfl (fun ls hl => ?_)
  refine lv_iconst (v := 1) hx hb dL_rests_19 (by decide) ?_
  exact k_iret hC hr hlocks hw [0, 1] rfl rfl ⟨rfl, rfl⟩ (by decide) (by decide) dL_rests_20

set_option maxHeartbeats 4000000 in
set_option maxRecDepth 100000 in
theorem c_L_rests_ge_l (γ : kΓ) (l : Launch) (hl9 : l.stackTraces = false) (x : Nat) (x0 : Nat) (x1 : Nat) (x2 : Nat) (x3 : Nat) (x4 : Nat) (x5 : Nat) (x6 : Nat) (x7 : Nat) (x8 : Nat) (x9 : Nat) (x10 : Nat) (bo : Int32) (lo : Int32) (ge : Int32) (wh : Int32) (ou : Nat) (fo : Nat → Int64) (hb0 : ¬ bo < 0) (hb1 : ¬ 9 < bo) (hl0 : ¬ lo < 0) (hl1 : ¬ 9 < lo) (h1 : ge < 0) : kMW γ l yL_rests cL_rests 7 (some .int) [(0, 14, 17, 13)] ({ frames := 7, cells := 1, slots := 6, locals := 128 } : Room) [.ref x, .int bo, .int lo, .int ge, .int wh, .ref ou] [(x, .inr (10, [.ref x0, .ref x1, .ref x2, .ref x3, .ref x4, .ref x5, .ref x6, .ref x7, .ref x8, .ref x9, .ref x10])), (ou, .inl (γ.2.1 1, 1, .inr (.inl fo)))] (fun r w1 => r = some (.int 1) ∧ w1 = [(x, .inr (10, [.ref x0, .ref x1, .ref x2, .ref x3, .ref x4, .ref x5, .ref x6, .ref x7, .ref x8, .ref x9, .ref x10])), (ou, .inl (γ.2.1 1, 1, .inr (.inl fo)))]) := by
  refine k_ofWW (by decide) (Nat.le_of_ble_eq_true rfl) ?_
  intro p e s m below meth c A ls hC hr hlocks htab hw hl
  have hx := hC.1
  have hb := hC.2.1
  have hl : lv_has ls 7 [(0, .ref x), (1, .int bo), (2, .int lo), (3, .int ge), (4, .int wh), (5, .ref ou)] := hl
  refine lv_aload hx hb dL_rests_0 (lv_at hl 5 rfl) ?_
  refine lv_iconst (v := 0) hx hb dL_rests_2 (by decide) ?_
  refine lv_aload_n hx hb dL_rests_3 rfl (lv_at hl 0 rfl) ?_
  refine lv_iload_n hx hb dL_rests_4 rfl (lv_at hl 1 rfl) ?_
  refine lv_iload_n hx hb dL_rests_5 rfl (lv_at hl 2 rfl) ?_
  refine lv_iload_n hx hb dL_rests_6 rfl (lv_at hl 3 rfl) ?_
  refine lv_iload hx hb dL_rests_7 (lv_at hl 4 rfl) ?_
  refine k_VX (wr := [(x, .inr (10, [.ref x0, .ref x1, .ref x2, .ref x3, .ref x4, .ref x5, .ref x6, .ref x7, .ref x8, .ref x9, .ref x10])), (ou, .inl (γ.2.1 1, 1, .inr (.inl fo)))]) 4 gw_1149 gw_1150 gw_1151 gw_1 gw_1152 hd_X11_rests hC hw (c_X11_rests_ge_l γ l hl9 x x0 x1 x2 x3 x4 x5 x6 x7 x8 x9 x10 bo lo ge wh hb0 hb1 hl0 hl1 h1) ⟨by decide, by decide⟩ ⟨by decide, by decide⟩ hl.1 rfl 0 rfl rfl rfl (Nat.le_of_ble_eq_true rfl) [] [0, 1] rfl rfl rfl rfl (by decide) dL_rests_9 _ _ htab (by decide) (by decide) gw_1024 nw_1031 (fun q9 H locs hw => ?_)
  have hw : kW γ A [(x, .inr (10, [.ref x0, .ref x1, .ref x2, .ref x3, .ref x4, .ref x5, .ref x6, .ref x7, .ref x8, .ref x9, .ref x10])), (ou, .inl (γ.2.1 1, 1, .inr (.inl fo)))] s H locs := hw
  refine W.eq (g2 := F0 m 17 ls [.ref q9]) rfl ?_
  refine W.widen (k := 1) (n := 6) (by decide) (by decide) ?_
  refine lv_astore (lv' := [(6, .ref q9), (0, .ref x), (1, .int bo), (2, .int lo), (3, .int ge), (4, .int wh), (5, .ref ou)]) hx hb dL_rests_17 hl (by decide) rfl (fun ls hl => ?_)
  refine lv_iconst (v := 1) hx hb dL_rests_19 (by decide) ?_
  exact k_iret hC hr hlocks hw [0, 1] rfl rfl ⟨rfl, rfl⟩ (by decide) (by decide) dL_rests_20

set_option maxHeartbeats 4000000 in
set_option maxRecDepth 100000 in
theorem c_L_rests_ge_h (γ : kΓ) (l : Launch) (hl9 : l.stackTraces = false) (x : Nat) (x0 : Nat) (x1 : Nat) (x2 : Nat) (x3 : Nat) (x4 : Nat) (x5 : Nat) (x6 : Nat) (x7 : Nat) (x8 : Nat) (x9 : Nat) (x10 : Nat) (bo : Int32) (lo : Int32) (ge : Int32) (wh : Int32) (ou : Nat) (fo : Nat → Int64) (hb0 : ¬ bo < 0) (hb1 : ¬ 9 < bo) (hl0 : ¬ lo < 0) (hl1 : ¬ 9 < lo) (h1 : ¬ ge < 0) (h2 : 9 < ge) : kMW γ l yL_rests cL_rests 7 (some .int) [(0, 14, 17, 13)] ({ frames := 7, cells := 1, slots := 6, locals := 128 } : Room) [.ref x, .int bo, .int lo, .int ge, .int wh, .ref ou] [(x, .inr (10, [.ref x0, .ref x1, .ref x2, .ref x3, .ref x4, .ref x5, .ref x6, .ref x7, .ref x8, .ref x9, .ref x10])), (ou, .inl (γ.2.1 1, 1, .inr (.inl fo)))] (fun r w1 => r = some (.int 1) ∧ w1 = [(x, .inr (10, [.ref x0, .ref x1, .ref x2, .ref x3, .ref x4, .ref x5, .ref x6, .ref x7, .ref x8, .ref x9, .ref x10])), (ou, .inl (γ.2.1 1, 1, .inr (.inl fo)))]) := by
  refine k_ofWW (by decide) (Nat.le_of_ble_eq_true rfl) ?_
  intro p e s m below meth c A ls hC hr hlocks htab hw hl
  have hx := hC.1
  have hb := hC.2.1
  have hl : lv_has ls 7 [(0, .ref x), (1, .int bo), (2, .int lo), (3, .int ge), (4, .int wh), (5, .ref ou)] := hl
  refine lv_aload hx hb dL_rests_0 (lv_at hl 5 rfl) ?_
  refine lv_iconst (v := 0) hx hb dL_rests_2 (by decide) ?_
  refine lv_aload_n hx hb dL_rests_3 rfl (lv_at hl 0 rfl) ?_
  refine lv_iload_n hx hb dL_rests_4 rfl (lv_at hl 1 rfl) ?_
  refine lv_iload_n hx hb dL_rests_5 rfl (lv_at hl 2 rfl) ?_
  refine lv_iload_n hx hb dL_rests_6 rfl (lv_at hl 3 rfl) ?_
  refine lv_iload hx hb dL_rests_7 (lv_at hl 4 rfl) ?_
  refine k_VX (wr := [(x, .inr (10, [.ref x0, .ref x1, .ref x2, .ref x3, .ref x4, .ref x5, .ref x6, .ref x7, .ref x8, .ref x9, .ref x10])), (ou, .inl (γ.2.1 1, 1, .inr (.inl fo)))]) 4 gw_1149 gw_1150 gw_1151 gw_1 gw_1152 hd_X11_rests hC hw (c_X11_rests_ge_h γ l hl9 x x0 x1 x2 x3 x4 x5 x6 x7 x8 x9 x10 bo lo ge wh hb0 hb1 hl0 hl1 h1 h2) ⟨by decide, by decide⟩ ⟨by decide, by decide⟩ hl.1 rfl 0 rfl rfl rfl (Nat.le_of_ble_eq_true rfl) [] [0, 1] rfl rfl rfl rfl (by decide) dL_rests_9 _ _ htab (by decide) (by decide) gw_1024 nw_1031 (fun q9 H locs hw => ?_)
  have hw : kW γ A [(x, .inr (10, [.ref x0, .ref x1, .ref x2, .ref x3, .ref x4, .ref x5, .ref x6, .ref x7, .ref x8, .ref x9, .ref x10])), (ou, .inl (γ.2.1 1, 1, .inr (.inl fo)))] s H locs := hw
  refine W.eq (g2 := F0 m 17 ls [.ref q9]) rfl ?_
  refine W.widen (k := 1) (n := 6) (by decide) (by decide) ?_
  refine lv_astore (lv' := [(6, .ref q9), (0, .ref x), (1, .int bo), (2, .int lo), (3, .int ge), (4, .int wh), (5, .ref ou)]) hx hb dL_rests_17 hl (by decide) rfl (fun ls hl => ?_)
  refine lv_iconst (v := 1) hx hb dL_rests_19 (by decide) ?_
  exact k_iret hC hr hlocks hw [0, 1] rfl rfl ⟨rfl, rfl⟩ (by decide) (by decide) dL_rests_20

set_option maxHeartbeats 4000000 in
set_option maxRecDepth 100000 in
theorem c_L_rests_wh (γ : kΓ) (l : Launch) (hl9 : l.stackTraces = false) (x : Nat) (x0 : Nat) (x1 : Nat) (x2 : Nat) (x3 : Nat) (x4 : Nat) (x5 : Nat) (x6 : Nat) (x7 : Nat) (x8 : Nat) (x9 : Nat) (x10 : Nat) (bo : Int32) (lo : Int32) (ge : Int32) (wh : Int32) (ou : Nat) (fo : Nat → Int64) (hb0 : ¬ bo < 0) (hb1 : ¬ 9 < bo) (hl0 : ¬ lo < 0) (hl1 : ¬ 9 < lo) (hg0 : ¬ ge < 0) (hg1 : ¬ 9 < ge) (h1 : wh < -1) : kMW γ l yL_rests cL_rests 7 (some .int) [(0, 14, 17, 13)] ({ frames := 7, cells := 1, slots := 6, locals := 128 } : Room) [.ref x, .int bo, .int lo, .int ge, .int wh, .ref ou] [(x, .inr (10, [.ref x0, .ref x1, .ref x2, .ref x3, .ref x4, .ref x5, .ref x6, .ref x7, .ref x8, .ref x9, .ref x10])), (ou, .inl (γ.2.1 1, 1, .inr (.inl fo)))] (fun r w1 => r = some (.int 1) ∧ w1 = [(x, .inr (10, [.ref x0, .ref x1, .ref x2, .ref x3, .ref x4, .ref x5, .ref x6, .ref x7, .ref x8, .ref x9, .ref x10])), (ou, .inl (γ.2.1 1, 1, .inr (.inl fo)))]) := by
  refine k_ofWW (by decide) (Nat.le_of_ble_eq_true rfl) ?_
  intro p e s m below meth c A ls hC hr hlocks htab hw hl
  have hx := hC.1
  have hb := hC.2.1
  have hl : lv_has ls 7 [(0, .ref x), (1, .int bo), (2, .int lo), (3, .int ge), (4, .int wh), (5, .ref ou)] := hl
  refine lv_aload hx hb dL_rests_0 (lv_at hl 5 rfl) ?_
  refine lv_iconst (v := 0) hx hb dL_rests_2 (by decide) ?_
  refine lv_aload_n hx hb dL_rests_3 rfl (lv_at hl 0 rfl) ?_
  refine lv_iload_n hx hb dL_rests_4 rfl (lv_at hl 1 rfl) ?_
  refine lv_iload_n hx hb dL_rests_5 rfl (lv_at hl 2 rfl) ?_
  refine lv_iload_n hx hb dL_rests_6 rfl (lv_at hl 3 rfl) ?_
  refine lv_iload hx hb dL_rests_7 (lv_at hl 4 rfl) ?_
  refine k_VX (wr := [(x, .inr (10, [.ref x0, .ref x1, .ref x2, .ref x3, .ref x4, .ref x5, .ref x6, .ref x7, .ref x8, .ref x9, .ref x10])), (ou, .inl (γ.2.1 1, 1, .inr (.inl fo)))]) 4 gw_1149 gw_1150 gw_1151 gw_1 gw_1152 hd_X11_rests hC hw (c_X11_rests_wh γ l hl9 x x0 x1 x2 x3 x4 x5 x6 x7 x8 x9 x10 bo lo ge wh hb0 hb1 hl0 hl1 hg0 hg1 h1) ⟨by decide, by decide⟩ ⟨by decide, by decide⟩ hl.1 rfl 0 rfl rfl rfl (Nat.le_of_ble_eq_true rfl) [] [0, 1] rfl rfl rfl rfl (by decide) dL_rests_9 _ _ htab (by decide) (by decide) gw_1024 nw_1031 (fun q9 H locs hw => ?_)
  have hw : kW γ A [(x, .inr (10, [.ref x0, .ref x1, .ref x2, .ref x3, .ref x4, .ref x5, .ref x6, .ref x7, .ref x8, .ref x9, .ref x10])), (ou, .inl (γ.2.1 1, 1, .inr (.inl fo)))] s H locs := hw
  refine W.eq (g2 := F0 m 17 ls [.ref q9]) rfl ?_
  refine W.widen (k := 1) (n := 6) (by decide) (by decide) ?_
  refine lv_astore (lv' := [(6, .ref q9), (0, .ref x), (1, .int bo), (2, .int lo), (3, .int ge), (4, .int wh), (5, .ref ou)]) hx hb dL_rests_17 hl (by decide) rfl (fun ls hl => ?_)
  refine lv_iconst (v := 1) hx hb dL_rests_19 (by decide) ?_
  exact k_iret hC hr hlocks hw [0, 1] rfl rfl ⟨rfl, rfl⟩ (by decide) (by decide) dL_rests_20

set_option maxHeartbeats 4000000 in
set_option maxRecDepth 100000 in
theorem c_X12_thrown (γ : kΓ) (l : Launch) (z : Nat) (z2 : Nat) (z10 : Nat) (z11 : Nat) (z12 : Nat) (z13 : Nat) (z14 : Nat) (z15 : Nat) (z16 : Nat) (z17 : Nat) (z18 : Nat) (z19 : Nat) (z22 : Nat) (z23 : Nat) (z24 : Nat) (z25 : Nat) (z26 : Nat) (z27 : Nat) (z28 : Nat) (z29 : Nat) (z30 : Nat) (z31 : Nat) (z32 : Nat) (z33 : Nat) (z36 : Nat) (z37 : Nat) (z38 : Nat) (z39 : Nat) (z40 : Nat) (z41 : Nat) (z42 : Nat) (z43 : Nat) (z44 : Nat) (z45 : Nat) (z46 : Nat) (z47 : Nat) (z48 : Nat) (z55 : Nat) (z56 : Nat) (z59 : Nat) (z60 : Nat) (z61 : Nat) (n1 : Int32) (n3 : Int32) (n4 : Int32) (n5 : Int32) (n6 : Int32) (n7 : Int64) (n8 : Int32) (n9 : Int32) (n20 : Int32) (n21 : Int32) (n34 : Int32) (n35 : Int64) (n49 : Int32) (n50 : Int32) (n51 : Int32) (n52 : Int32) (n53 : Int32) (n54 : Int32) (n57 : Int32) (n58 : Int32) (n62 : Int32) (n63 : Int64) (th : Int32) : kM γ l yX12_thrown cX12_thrown 1 ((some .int)) ({ frames := 0, cells := 0, slots := 0, locals := 0 } : Room) [.ref z] [(z, .inr (11, [.int th, .int n1, .ref z2, .int n3, .int n4, .int n5, .int n6, .long n7, .int n8, .int n9, .ref z10, .ref z11, .ref z12, .ref z13, .ref z14, .ref z15, .ref z16, .ref z17, .ref z18, .ref z19, .int n20, .int n21, .ref z22, .ref z23, .ref z24, .ref z25, .ref z26, .ref z27, .ref z28, .ref z29, .ref z30, .ref z31, .ref z32, .ref z33, .int n34, .long n35, .ref z36, .ref z37, .ref z38, .ref z39, .ref z40, .ref z41, .ref z42, .ref z43, .ref z44, .ref z45, .ref z46, .ref z47, .ref z48, .int n49, .int n50, .int n51, .int n52, .int n53, .int n54, .ref z55, .ref z56, .int n57, .int n58, .ref z59, .ref z60, .ref z61, .int n62, .long n63]))] (fun r w1 => r = some (.int th) ∧ w1 = [(z, .inr (11, [.int th, .int n1, .ref z2, .int n3, .int n4, .int n5, .int n6, .long n7, .int n8, .int n9, .ref z10, .ref z11, .ref z12, .ref z13, .ref z14, .ref z15, .ref z16, .ref z17, .ref z18, .ref z19, .int n20, .int n21, .ref z22, .ref z23, .ref z24, .ref z25, .ref z26, .ref z27, .ref z28, .ref z29, .ref z30, .ref z31, .ref z32, .ref z33, .int n34, .long n35, .ref z36, .ref z37, .ref z38, .ref z39, .ref z40, .ref z41, .ref z42, .ref z43, .ref z44, .ref z45, .ref z46, .ref z47, .ref z48, .int n49, .int n50, .int n51, .int n52, .int n53, .int n54, .ref z55, .ref z56, .int n57, .int n58, .ref z59, .ref z60, .ref z61, .int n62, .long n63]))]) := by
  refine k_ofW (by decide) (Nat.le_of_ble_eq_true rfl) ?_
  intro p e s m below meth c A ls hC hr hlocks hname hw hl
  have hx := hC.1
  have hb := hC.2.1
  have hl : lv_has ls 1 [(0, .ref z)] := hl
  refine lv_aload_n hx hb dX12_thrown_0 rfl (lv_at hl 0 rfl) ?_
  refine fg_RX12_143 hC hw 0 rfl rfl dX12_thrown_1 ?_
  exact k_iret hC hr hlocks hw [0] rfl rfl ⟨rfl, rfl⟩ (by decide) (by decide) dX12_thrown_4


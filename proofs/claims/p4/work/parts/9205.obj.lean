theorem dX2_init_0 : decode cX2_init 0 = .ok (.aload_n 0, 1) := by decide +kernel
theorem dX2_init_1 : decode cX2_init 1 = .ok (.invokespecial 3, 3) := by decide +kernel
theorem dX2_init_4 : decode cX2_init 4 = .ok (.aload_n 0, 1) := by decide +kernel
theorem dX2_init_5 : decode cX2_init 5 = .ok (.new 9, 3) := by decide +kernel
theorem dX2_init_8 : decode cX2_init 8 = .ok (.dup, 1) := by decide +kernel
theorem dX2_init_9 : decode cX2_init 9 = .ok (.invokespecial 11, 3) := by decide +kernel
theorem dX2_init_12 : decode cX2_init 12 = .ok (.putfield 12, 3) := by decide +kernel
theorem dX2_init_15 : decode cX2_init 15 = .ok (.return_, 1) := by decide +kernel
theorem dX6_init_0 : decode cX6_init 0 = .ok (.aload_n 0, 1) := by decide +kernel
theorem dX6_init_1 : decode cX6_init 1 = .ok (.invokespecial 3, 3) := by decide +kernel
theorem dX6_init_4 : decode cX6_init 4 = .ok (.aload_n 0, 1) := by decide +kernel
theorem dX6_init_5 : decode cX6_init 5 = .ok (.bipush 8, 2) := by decide +kernel
theorem dX6_init_7 : decode cX6_init 7 = .ok (.newarray .int, 2) := by decide +kernel
theorem dX6_init_9 : decode cX6_init 9 = .ok (.putfield 9, 3) := by decide +kernel
theorem dX6_init_12 : decode cX6_init 12 = .ok (.aload_n 0, 1) := by decide +kernel
theorem dX6_init_13 : decode cX6_init 13 = .ok (.bipush 8, 2) := by decide +kernel
theorem dX6_init_15 : decode cX6_init 15 = .ok (.newarray .int, 2) := by decide +kernel
theorem dX6_init_17 : decode cX6_init 17 = .ok (.putfield 15, 3) := by decide +kernel
theorem dX6_init_20 : decode cX6_init 20 = .ok (.return_, 1) := by decide +kernel
theorem dX1_init_0 : decode cX1_init 0 = .ok (.aload_n 0, 1) := by decide +kernel
theorem dX1_init_1 : decode cX1_init 1 = .ok (.invokespecial 5, 3) := by decide +kernel
theorem dX1_init_4 : decode cX1_init 4 = .ok (.aload_n 0, 1) := by decide +kernel
theorem dX1_init_5 : decode cX1_init 5 = .ok (.iconst 5, 1) := by decide +kernel
theorem dX1_init_6 : decode cX1_init 6 = .ok (.newarray .int, 2) := by decide +kernel
theorem dX1_init_8 : decode cX1_init 8 = .ok (.putfield 11, 3) := by decide +kernel
theorem dX1_init_11 : decode cX1_init 11 = .ok (.aload_n 0, 1) := by decide +kernel
theorem dX1_init_12 : decode cX1_init 12 = .ok (.bipush 40, 2) := by decide +kernel
theorem dX1_init_14 : decode cX1_init 14 = .ok (.newarray .int, 2) := by decide +kernel
theorem dX1_init_16 : decode cX1_init 16 = .ok (.putfield 17, 3) := by decide +kernel
theorem dX1_init_19 : decode cX1_init 19 = .ok (.aload_n 0, 1) := by decide +kernel
theorem dX1_init_20 : decode cX1_init 20 = .ok (.iconst 5, 1) := by decide +kernel
theorem dX1_init_21 : decode cX1_init 21 = .ok (.newarray .boolean, 2) := by decide +kernel
theorem dX1_init_23 : decode cX1_init 23 = .ok (.putfield 20, 3) := by decide +kernel
theorem dX1_init_26 : decode cX1_init 26 = .ok (.aload_n 0, 1) := by decide +kernel
theorem dX1_init_27 : decode cX1_init 27 = .ok (.sipush 880, 3) := by decide +kernel
theorem dX1_init_30 : decode cX1_init 30 = .ok (.newarray .int, 2) := by decide +kernel
theorem dX1_init_32 : decode cX1_init 32 = .ok (.putfield 24, 3) := by decide +kernel
theorem dX1_init_35 : decode cX1_init 35 = .ok (.return_, 1) := by decide +kernel
theorem dX4_init_0 : decode cX4_init 0 = .ok (.aload_n 0, 1) := by decide +kernel
theorem dX4_init_1 : decode cX4_init 1 = .ok (.invokespecial 3, 3) := by decide +kernel
theorem dX4_init_4 : decode cX4_init 4 = .ok (.aload_n 0, 1) := by decide +kernel
theorem dX4_init_5 : decode cX4_init 5 = .ok (.iconst 5, 1) := by decide +kernel
theorem dX4_init_6 : decode cX4_init 6 = .ok (.newarray .int, 2) := by decide +kernel
theorem dX4_init_8 : decode cX4_init 8 = .ok (.putfield 9, 3) := by decide +kernel
theorem dX4_init_11 : decode cX4_init 11 = .ok (.aload_n 0, 1) := by decide +kernel
theorem dX4_init_12 : decode cX4_init 12 = .ok (.iconst 5, 1) := by decide +kernel
theorem dX4_init_13 : decode cX4_init 13 = .ok (.newarray .int, 2) := by decide +kernel
theorem dX4_init_15 : decode cX4_init 15 = .ok (.putfield 15, 3) := by decide +kernel
theorem dX4_init_18 : decode cX4_init 18 = .ok (.aload_n 0, 1) := by decide +kernel
theorem dX4_init_19 : decode cX4_init 19 = .ok (.iconst 5, 1) := by decide +kernel
theorem dX4_init_20 : decode cX4_init 20 = .ok (.newarray .int, 2) := by decide +kernel
theorem dX4_init_22 : decode cX4_init 22 = .ok (.putfield 18, 3) := by decide +kernel
theorem dX4_init_25 : decode cX4_init 25 = .ok (.return_, 1) := by decide +kernel
theorem dX8_init_0 : decode cX8_init 0 = .ok (.aload_n 0, 1) := by decide +kernel
theorem dX8_init_1 : decode cX8_init 1 = .ok (.invokespecial 3, 3) := by decide +kernel
theorem dX8_init_4 : decode cX8_init 4 = .ok (.aload_n 0, 1) := by decide +kernel
theorem dX8_init_5 : decode cX8_init 5 = .ok (.sipush 1000, 3) := by decide +kernel
theorem dX8_init_8 : decode cX8_init 8 = .ok (.newarray .byte, 2) := by decide +kernel
theorem dX8_init_10 : decode cX8_init 10 = .ok (.putfield 9, 3) := by decide +kernel
theorem dX8_init_13 : decode cX8_init 13 = .ok (.aload_n 0, 1) := by decide +kernel
theorem dX8_init_14 : decode cX8_init 14 = .ok (.getstatic 15, 3) := by decide +kernel
theorem dX8_init_17 : decode cX8_init 17 = .ok (.putfield 21, 3) := by decide +kernel
theorem dX8_init_20 : decode cX8_init 20 = .ok (.return_, 1) := by decide +kernel
theorem dX5_init_0 : decode cX5_init 0 = .ok (.aload_n 0, 1) := by decide +kernel
theorem dX5_init_1 : decode cX5_init 1 = .ok (.invokespecial 3, 3) := by decide +kernel
theorem dX5_init_4 : decode cX5_init 4 = .ok (.aload_n 0, 1) := by decide +kernel
theorem dX5_init_5 : decode cX5_init 5 = .ok (.bipush 40, 2) := by decide +kernel
theorem dX5_init_7 : decode cX5_init 7 = .ok (.newarray .int, 2) := by decide +kernel
theorem dX5_init_9 : decode cX5_init 9 = .ok (.putfield 9, 3) := by decide +kernel
theorem dX5_init_12 : decode cX5_init 12 = .ok (.aload_n 0, 1) := by decide +kernel
theorem dX5_init_13 : decode cX5_init 13 = .ok (.aload_n 1, 1) := by decide +kernel
theorem dX5_init_14 : decode cX5_init 14 = .ok (.putfield 15, 3) := by decide +kernel
theorem dX5_init_17 : decode cX5_init 17 = .ok (.aload_n 0, 1) := by decide +kernel
theorem dX5_init_18 : decode cX5_init 18 = .ok (.aload_n 2, 1) := by decide +kernel
theorem dX5_init_19 : decode cX5_init 19 = .ok (.putfield 19, 3) := by decide +kernel
theorem dX5_init_22 : decode cX5_init 22 = .ok (.return_, 1) := by decide +kernel
set_option maxHeartbeats 4000000 in
set_option maxRecDepth 100000 in
theorem c_X2_init (γ : kΓ) (l : Launch) (h : Nat) : kM γ l yX2_init cX2_init 1 none ({ frames := 3, cells := 7, slots := 77, locals := 64 } : Room) [.ref h] [(h, .inr (2, [.null, .int 0, .int 0, .int 0, .long 0]))] (fun r w1 => ∃ (hs : Nat), ∃ (hs_l : Nat), ∃ (hs_c : Nat), ∃ (hs_g : Nat), ∃ (hs_r : Nat), ∃ (hs_k : Nat), ∃ (hs_b : Nat), ∃ (ghs_l : Nat → Int32), ∃ (ghs_c : Nat → Int32), ∃ (ghs_g : Nat → Int32), ∃ (ghs_r : Nat → Int64), ∃ (ghs_k : Nat → Int32), ∃ (ghs_b : Nat → Int32), r = none ∧ w1 = [(h, .inr (2, [.ref hs, .int 0, .int 0, .int 0, .long 0])), (hs, .inr (7, [.ref hs_l, .ref hs_c, .ref hs_g, .ref hs_r, .ref hs_k, .ref hs_b, .int 0, .int 0, .int 0])), (hs_l, .inl (γ.2.1 0, 5, .inl ghs_l)), (hs_c, .inl (γ.2.1 0, 5, .inl ghs_c)), (hs_g, .inl (γ.2.1 0, 5, .inl ghs_g)), (hs_r, .inl (γ.2.1 1, 5, .inr (.inl ghs_r))), (hs_k, .inl (γ.2.1 0, 40, .inl ghs_k)), (hs_b, .inl (γ.2.1 0, 8, .inl ghs_b))] ∧ (∀ j, j < 5 → ghs_l j = (-1)) ∧ (∀ j, j < 5 → ghs_c j = 0) ∧ (∀ j, j < 5 → ghs_g j = 0) ∧ (∀ j, j < 5 → ghs_r j = 0) ∧ (∀ j, j < 40 → ghs_k j = 0) ∧ (∀ j, j < 8 → ghs_b j = 0)) := by
  refine k_ofW (by decide) (Nat.le_of_ble_eq_true rfl) ?_
  intro p9 e s m below meth c A ls hC hr hlocks hname hw hl
  have hx := hC.1
  have hb := hC.2.1
  have hin : meth.name = "<init>" := hname
  have hl : lv_has ls 1 [(0, .ref h)] := hl
  refine lv_aload_n hx hb dX2_init_0 rfl (lv_at hl 0 rfl) ?_
  refine k_objInit hC gw_186 hl.1 (by decide) (Nat.le_of_ble_eq_true rfl) dX2_init_1 ?_
  refine W.eq (g2 := F0 m 4 ls []) rfl ?_
  refine lv_aload_n hx hb dX2_init_4 rfl (lv_at hl 0 rfl) ?_
  refine k_new (ci := 7) hC hw in_RX7 tyX7 tyX7_ok gw_187 gw_79 gw_6 rfl nf_RX7 (by decide) (by decide) dX2_init_5 (fun q_62 H hw => ?_)
  have hw : kW γ A [(h, .inr (2, [.null, .int 0, .int 0, .int 0, .long 0])), (q_62, .inr (7, [.null, .null, .null, .null, .null, .null, .int 0, .int 0, .int 0]))] s H [] := hw
  refine W.widen (k := 1) (n := 9) (by decide) (by decide) ?_
  refine lv_dup hx hb dX2_init_8 rfl ?_
  refine k_I (wr := [(h, .inr (2, [.null, .int 0, .int 0, .int 0, .long 0]))]) 0 gw_188 gw_81 gw_6 gw_82 rfl hd_X7_init hC hw (c_X7_init γ l q_62) ⟨by decide, by decide⟩ ⟨by decide, by decide⟩ hl.1 rfl rfl (Nat.le_of_ble_eq_true rfl) [1] [0] rfl rfl rfl rfl (by decide) dX2_init_9 (fun r w1 H locs hq hw => ?_)
  obtain ⟨h_l_63, h_c_64, h_g_65, h_r_66, h_k_67, h_b_68, gh_l_69, gh_c_70, gh_g_71, gh_r_72, gh_k_73, gh_b_74, rfl, rfl, g_75, g_76, g_77, g_78, g_79, g_80⟩ := hq
  have hw : kW γ A [(h, .inr (2, [.null, .int 0, .int 0, .int 0, .long 0])), (q_62, .inr (7, [.ref h_l_63, .ref h_c_64, .ref h_g_65, .ref h_r_66, .ref h_k_67, .ref h_b_68, .int 0, .int 0, .int 0])), (h_l_63, .inl (γ.2.1 0, 5, .inl gh_l_69)), (h_c_64, .inl (γ.2.1 0, 5, .inl gh_c_70)), (h_g_65, .inl (γ.2.1 0, 5, .inl gh_g_71)), (h_r_66, .inl (γ.2.1 1, 5, .inr (.inl gh_r_72))), (h_k_67, .inl (γ.2.1 0, 40, .inl gh_k_73)), (h_b_68, .inl (γ.2.1 0, 8, .inl gh_b_74))] s H locs := hw
  refine W.eq (g2 := F0 m 12 ls [.ref q_62, .ref h]) rfl ?_
  refine W.widen (k := 7) (n := 77) (by decide) (by decide) ?_
  refine fs_RX2_12 hC hw hin 0 rfl rfl rfl (Nat.le_of_ble_eq_true rfl) dX2_init_12 (fun H locs hw => ?_)
  have hw : kW γ A [(h, .inr (2, [.ref q_62, .int 0, .int 0, .int 0, .long 0])), (q_62, .inr (7, [.ref h_l_63, .ref h_c_64, .ref h_g_65, .ref h_r_66, .ref h_k_67, .ref h_b_68, .int 0, .int 0, .int 0])), (h_l_63, .inl (γ.2.1 0, 5, .inl gh_l_69)), (h_c_64, .inl (γ.2.1 0, 5, .inl gh_c_70)), (h_g_65, .inl (γ.2.1 0, 5, .inl gh_g_71)), (h_r_66, .inl (γ.2.1 1, 5, .inr (.inl gh_r_72))), (h_k_67, .inl (γ.2.1 0, 40, .inl gh_k_73)), (h_b_68, .inl (γ.2.1 0, 8, .inl gh_b_74))] s H locs := hw
  exact k_vret hC hr hlocks hw [0, 1, 2, 3, 4, 5, 6, 7] rfl rfl ⟨q_62, h_l_63, h_c_64, h_g_65, h_r_66, h_k_67, h_b_68, gh_l_69, gh_c_70, gh_g_71, gh_r_72, gh_k_73, gh_b_74, rfl, rfl, g_75, g_76, g_77, g_78, g_79, g_80⟩ (by decide) (by decide) dX2_init_15

set_option maxHeartbeats 4000000 in
set_option maxRecDepth 100000 in
theorem c_X6_init (γ : kΓ) (l : Launch) (h : Nat) : kM γ l yX6_init cX6_init 1 none ({ frames := 1, cells := 2, slots := 16, locals := 24 } : Room) [.ref h] [(h, .inr (6, [.null, .null]))] (fun r w1 => ∃ (a0 : Nat), ∃ (a1 : Nat), r = none ∧ w1 = [(h, .inr (6, [.ref a0, .ref a1])), (a0, .inl (γ.2.1 0, 8, .inl (fun _ => 0))), (a1, .inl (γ.2.1 0, 8, .inl (fun _ => 0)))]) := by
  refine k_ofW (by decide) (Nat.le_of_ble_eq_true rfl) ?_
  intro p9 e s m below meth c A ls hC hr hlocks hname hw hl
  have hx := hC.1
  have hb := hC.2.1
  have hin : meth.name = "<init>" := hname
  have hl : lv_has ls 1 [(0, .ref h)] := hl
  refine lv_aload_n hx hb dX6_init_0 rfl (lv_at hl 0 rfl) ?_
  refine k_objInit hC gw_214 hl.1 (by decide) (Nat.le_of_ble_eq_true rfl) dX6_init_1 ?_
  refine W.eq (g2 := F0 m 4 ls []) rfl ?_
  refine lv_aload_n hx hb dX6_init_4 rfl (lv_at hl 0 rfl) ?_
  refine lv_bipush (v := 8) hx hb dX6_init_5 (by decide) ?_
  refine k_newa (atype := .int) (N' := 8) (a0 := (8, .inl (fun _ => 0))) hC hw rfl gw_132 0 rfl (fun _ h => by cases h) (fun _ => rfl) (by decide) (by decide) (by decide) (by decide) (by decide) dX6_init_7 (fun q_81 H hw => ?_)
  have hw : kW γ A [(h, .inr (6, [.null, .null])), (q_81, .inl (γ.2.1 0, 8, .inl (fun _ => 0)))] s H [] := hw
  refine W.widen (k := 1) (n := 8) (by decide) (by decide) ?_
  refine fs_RX6_9 hC hw hin 0 rfl rfl rfl (Nat.le_of_ble_eq_true rfl) dX6_init_9 (fun H locs hw => ?_)
  have hw : kW γ A [(h, .inr (6, [.ref q_81, .null])), (q_81, .inl (γ.2.1 0, 8, .inl (fun _ => 0)))] s H locs := hw
  refine lv_aload_n hx hb dX6_init_12 rfl (lv_at hl 0 rfl) ?_
  refine lv_bipush (v := 8) hx hb dX6_init_13 (by decide) ?_
  refine k_newa (atype := .int) (N' := 8) (a0 := (8, .inl (fun _ => 0))) hC hw rfl gw_132 0 rfl (fun _ h => by cases h) (fun _ => rfl) (by decide) (by decide) (by decide) (by decide) (by decide) dX6_init_15 (fun q_82 H hw => ?_)
  have hw : kW γ A [(h, .inr (6, [.ref q_81, .null])), (q_81, .inl (γ.2.1 0, 8, .inl (fun _ => 0))), (q_82, .inl (γ.2.1 0, 8, .inl (fun _ => 0)))] s H locs := hw
  refine W.widen (k := 2) (n := 16) (by decide) (by decide) ?_
  refine fs_RX6_15 hC hw hin 0 rfl rfl rfl (Nat.le_of_ble_eq_true rfl) dX6_init_17 (fun H locs hw => ?_)
  have hw : kW γ A [(h, .inr (6, [.ref q_81, .ref q_82])), (q_81, .inl (γ.2.1 0, 8, .inl (fun _ => 0))), (q_82, .inl (γ.2.1 0, 8, .inl (fun _ => 0)))] s H locs := hw
  exact k_vret hC hr hlocks hw [0, 1, 2] rfl rfl ⟨q_81, q_82, rfl, rfl⟩ (by decide) (by decide) dX6_init_20

set_option maxHeartbeats 4000000 in
set_option maxRecDepth 100000 in
theorem c_X1_init (γ : kΓ) (l : Launch) (h : Nat) : kM γ l yX1_init cX1_init 1 none ({ frames := 1, cells := 4, slots := 930, locals := 24 } : Room) [.ref h] [(h, .inr (1, [.null, .null, .null, .null, .int 0, .int 0]))] (fun r w1 => ∃ (a0 : Nat), ∃ (a1 : Nat), ∃ (a2 : Nat), ∃ (a3 : Nat), r = none ∧ w1 = [(h, .inr (1, [.ref a0, .ref a1, .ref a2, .ref a3, .int 0, .int 0])), (a0, .inl (γ.2.1 0, 5, .inl (fun _ => 0))), (a1, .inl (γ.2.1 0, 40, .inl (fun _ => 0))), (a2, .inl (γ.2.1 3, 5, .inl (fun _ => 0))), (a3, .inl (γ.2.1 0, 880, .inl (fun _ => 0)))]) := by
  refine k_ofW (by decide) (Nat.le_of_ble_eq_true rfl) ?_
  intro p9 e s m below meth c A ls hC hr hlocks hname hw hl
  have hx := hC.1
  have hb := hC.2.1
  have hin : meth.name = "<init>" := hname
  have hl : lv_has ls 1 [(0, .ref h)] := hl
  refine lv_aload_n hx hb dX1_init_0 rfl (lv_at hl 0 rfl) ?_
  refine k_objInit hC gw_228 hl.1 (by decide) (Nat.le_of_ble_eq_true rfl) dX1_init_1 ?_
  refine W.eq (g2 := F0 m 4 ls []) rfl ?_
  refine lv_aload_n hx hb dX1_init_4 rfl (lv_at hl 0 rfl) ?_
  refine lv_iconst (v := 5) hx hb dX1_init_5 (by decide) ?_
  refine k_newa (atype := .int) (N' := 5) (a0 := (5, .inl (fun _ => 0))) hC hw rfl gw_132 0 rfl (fun _ h => by cases h) (fun _ => rfl) (by decide) (by decide) (by decide) (by decide) (by decide) dX1_init_6 (fun q_83 H hw => ?_)
  have hw : kW γ A [(h, .inr (1, [.null, .null, .null, .null, .int 0, .int 0])), (q_83, .inl (γ.2.1 0, 5, .inl (fun _ => 0)))] s H [] := hw
  refine W.widen (k := 1) (n := 5) (by decide) (by decide) ?_
  refine fs_RX1_11 hC hw hin 0 rfl rfl rfl (Nat.le_of_ble_eq_true rfl) dX1_init_8 (fun H locs hw => ?_)
  have hw : kW γ A [(h, .inr (1, [.ref q_83, .null, .null, .null, .int 0, .int 0])), (q_83, .inl (γ.2.1 0, 5, .inl (fun _ => 0)))] s H locs := hw
  refine lv_aload_n hx hb dX1_init_11 rfl (lv_at hl 0 rfl) ?_
  refine lv_bipush (v := 40) hx hb dX1_init_12 (by decide) ?_
  refine k_newa (atype := .int) (N' := 40) (a0 := (40, .inl (fun _ => 0))) hC hw rfl gw_132 0 rfl (fun _ h => by cases h) (fun _ => rfl) (by decide) (by decide) (by decide) (by decide) (by decide) dX1_init_14 (fun q_84 H hw => ?_)
  have hw : kW γ A [(h, .inr (1, [.ref q_83, .null, .null, .null, .int 0, .int 0])), (q_83, .inl (γ.2.1 0, 5, .inl (fun _ => 0))), (q_84, .inl (γ.2.1 0, 40, .inl (fun _ => 0)))] s H locs := hw
  refine W.widen (k := 2) (n := 45) (by decide) (by decide) ?_
  refine fs_RX1_17 hC hw hin 0 rfl rfl rfl (Nat.le_of_ble_eq_true rfl) dX1_init_16 (fun H locs hw => ?_)
  have hw : kW γ A [(h, .inr (1, [.ref q_83, .ref q_84, .null, .null, .int 0, .int 0])), (q_83, .inl (γ.2.1 0, 5, .inl (fun _ => 0))), (q_84, .inl (γ.2.1 0, 40, .inl (fun _ => 0)))] s H locs := hw
  refine lv_aload_n hx hb dX1_init_19 rfl (lv_at hl 0 rfl) ?_
  refine lv_iconst (v := 5) hx hb dX1_init_20 (by decide) ?_
  refine k_newa (atype := .boolean) (N' := 5) (a0 := (5, .inl (fun _ => 0))) hC hw rfl gw_249 3 rfl (fun _ h => by cases h) (fun _ => rfl) (by decide) (by decide) (by decide) (by decide) (by decide) dX1_init_21 (fun q_85 H hw => ?_)
  have hw : kW γ A [(h, .inr (1, [.ref q_83, .ref q_84, .null, .null, .int 0, .int 0])), (q_83, .inl (γ.2.1 0, 5, .inl (fun _ => 0))), (q_84, .inl (γ.2.1 0, 40, .inl (fun _ => 0))), (q_85, .inl (γ.2.1 3, 5, .inl (fun _ => 0)))] s H locs := hw
  refine W.widen (k := 3) (n := 50) (by decide) (by decide) ?_
  refine fs_RX1_20 hC hw hin 0 rfl rfl rfl (Nat.le_of_ble_eq_true rfl) dX1_init_23 (fun H locs hw => ?_)
  have hw : kW γ A [(h, .inr (1, [.ref q_83, .ref q_84, .ref q_85, .null, .int 0, .int 0])), (q_83, .inl (γ.2.1 0, 5, .inl (fun _ => 0))), (q_84, .inl (γ.2.1 0, 40, .inl (fun _ => 0))), (q_85, .inl (γ.2.1 3, 5, .inl (fun _ => 0)))] s H locs := hw
  refine lv_aload_n hx hb dX1_init_26 rfl (lv_at hl 0 rfl) ?_
  refine lv_sipush (v := 880) hx hb dX1_init_27 (by decide) ?_
  refine k_newa (atype := .int) (N' := 880) (a0 := (880, .inl (fun _ => 0))) hC hw rfl gw_132 0 rfl (fun _ h => by cases h) (fun _ => rfl) (by decide) (by decide) (by decide) (by decide) (by decide) dX1_init_30 (fun q_86 H hw => ?_)
  have hw : kW γ A [(h, .inr (1, [.ref q_83, .ref q_84, .ref q_85, .null, .int 0, .int 0])), (q_83, .inl (γ.2.1 0, 5, .inl (fun _ => 0))), (q_84, .inl (γ.2.1 0, 40, .inl (fun _ => 0))), (q_85, .inl (γ.2.1 3, 5, .inl (fun _ => 0))), (q_86, .inl (γ.2.1 0, 880, .inl (fun _ => 0)))] s H locs := hw
  refine W.widen (k := 4) (n := 930) (by decide) (by decide) ?_
  refine fs_RX1_24 hC hw hin 0 rfl rfl rfl (Nat.le_of_ble_eq_true rfl) dX1_init_32 (fun H locs hw => ?_)
  have hw : kW γ A [(h, .inr (1, [.ref q_83, .ref q_84, .ref q_85, .ref q_86, .int 0, .int 0])), (q_83, .inl (γ.2.1 0, 5, .inl (fun _ => 0))), (q_84, .inl (γ.2.1 0, 40, .inl (fun _ => 0))), (q_85, .inl (γ.2.1 3, 5, .inl (fun _ => 0))), (q_86, .inl (γ.2.1 0, 880, .inl (fun _ => 0)))] s H locs := hw
  exact k_vret hC hr hlocks hw [0, 1, 2, 3, 4] rfl rfl ⟨q_83, q_84, q_85, q_86, rfl, rfl⟩ (by decide) (by decide) dX1_init_35

set_option maxHeartbeats 4000000 in
set_option maxRecDepth 100000 in
theorem c_X4_init (γ : kΓ) (l : Launch) (h : Nat) : kM γ l yX4_init cX4_init 1 none ({ frames := 1, cells := 3, slots := 15, locals := 24 } : Room) [.ref h] [(h, .inr (4, [.null, .null, .null, .int 0, .int 0]))] (fun r w1 => ∃ (hc : Nat), ∃ (ht : Nat), ∃ (hd : Nat), r = none ∧ w1 = [(h, .inr (4, [.ref hc, .ref ht, .ref hd, .int 0, .int 0])), (hc, .inl (γ.2.1 0, 5, .inl (fun _ => 0))), (ht, .inl (γ.2.1 0, 5, .inl (fun _ => 0))), (hd, .inl (γ.2.1 0, 5, .inl (fun _ => 0)))]) := by
  refine k_ofW (by decide) (Nat.le_of_ble_eq_true rfl) ?_
  intro p9 e s m below meth c A ls hC hr hlocks hname hw hl
  have hx := hC.1
  have hb := hC.2.1
  have hin : meth.name = "<init>" := hname
  have hl : lv_has ls 1 [(0, .ref h)] := hl
  refine lv_aload_n hx hb dX4_init_0 rfl (lv_at hl 0 rfl) ?_
  refine k_objInit hC gw_255 hl.1 (by decide) (Nat.le_of_ble_eq_true rfl) dX4_init_1 ?_
  refine W.eq (g2 := F0 m 4 ls []) rfl ?_
  refine lv_aload_n hx hb dX4_init_4 rfl (lv_at hl 0 rfl) ?_
  refine lv_iconst (v := 5) hx hb dX4_init_5 (by decide) ?_
  refine k_newa (atype := .int) (N' := 5) (a0 := (5, .inl (fun _ => 0))) hC hw rfl gw_132 0 rfl (fun _ h => by cases h) (fun _ => rfl) (by decide) (by decide) (by decide) (by decide) (by decide) dX4_init_6 (fun q_87 H hw => ?_)
  have hw : kW γ A [(h, .inr (4, [.null, .null, .null, .int 0, .int 0])), (q_87, .inl (γ.2.1 0, 5, .inl (fun _ => 0)))] s H [] := hw
  refine W.widen (k := 1) (n := 5) (by decide) (by decide) ?_
  refine fs_RX4_9 hC hw hin 0 rfl rfl rfl (Nat.le_of_ble_eq_true rfl) dX4_init_8 (fun H locs hw => ?_)
  have hw : kW γ A [(h, .inr (4, [.ref q_87, .null, .null, .int 0, .int 0])), (q_87, .inl (γ.2.1 0, 5, .inl (fun _ => 0)))] s H locs := hw
  refine lv_aload_n hx hb dX4_init_11 rfl (lv_at hl 0 rfl) ?_
  refine lv_iconst (v := 5) hx hb dX4_init_12 (by decide) ?_
  refine k_newa (atype := .int) (N' := 5) (a0 := (5, .inl (fun _ => 0))) hC hw rfl gw_132 0 rfl (fun _ h => by cases h) (fun _ => rfl) (by decide) (by decide) (by decide) (by decide) (by decide) dX4_init_13 (fun q_88 H hw => ?_)
  have hw : kW γ A [(h, .inr (4, [.ref q_87, .null, .null, .int 0, .int 0])), (q_87, .inl (γ.2.1 0, 5, .inl (fun _ => 0))), (q_88, .inl (γ.2.1 0, 5, .inl (fun _ => 0)))] s H locs := hw
  refine W.widen (k := 2) (n := 10) (by decide) (by decide) ?_
  refine fs_RX4_15 hC hw hin 0 rfl rfl rfl (Nat.le_of_ble_eq_true rfl) dX4_init_15 (fun H locs hw => ?_)
  have hw : kW γ A [(h, .inr (4, [.ref q_87, .ref q_88, .null, .int 0, .int 0])), (q_87, .inl (γ.2.1 0, 5, .inl (fun _ => 0))), (q_88, .inl (γ.2.1 0, 5, .inl (fun _ => 0)))] s H locs := hw
  refine lv_aload_n hx hb dX4_init_18 rfl (lv_at hl 0 rfl) ?_
  refine lv_iconst (v := 5) hx hb dX4_init_19 (by decide) ?_
  refine k_newa (atype := .int) (N' := 5) (a0 := (5, .inl (fun _ => 0))) hC hw rfl gw_132 0 rfl (fun _ h => by cases h) (fun _ => rfl) (by decide) (by decide) (by decide) (by decide) (by decide) dX4_init_20 (fun q_89 H hw => ?_)
  have hw : kW γ A [(h, .inr (4, [.ref q_87, .ref q_88, .null, .int 0, .int 0])), (q_87, .inl (γ.2.1 0, 5, .inl (fun _ => 0))), (q_88, .inl (γ.2.1 0, 5, .inl (fun _ => 0))), (q_89, .inl (γ.2.1 0, 5, .inl (fun _ => 0)))] s H locs := hw
  refine W.widen (k := 3) (n := 15) (by decide) (by decide) ?_
  refine fs_RX4_18 hC hw hin 0 rfl rfl rfl (Nat.le_of_ble_eq_true rfl) dX4_init_22 (fun H locs hw => ?_)
  have hw : kW γ A [(h, .inr (4, [.ref q_87, .ref q_88, .ref q_89, .int 0, .int 0])), (q_87, .inl (γ.2.1 0, 5, .inl (fun _ => 0))), (q_88, .inl (γ.2.1 0, 5, .inl (fun _ => 0))), (q_89, .inl (γ.2.1 0, 5, .inl (fun _ => 0)))] s H locs := hw
  exact k_vret hC hr hlocks hw [0, 1, 2, 3] rfl rfl ⟨q_87, q_88, q_89, rfl, rfl⟩ (by decide) (by decide) dX4_init_25

set_option maxHeartbeats 4000000 in
set_option maxRecDepth 100000 in
theorem c_X8_init (γ : kΓ) (l : Launch) (h : Nat) : kM γ l yX8_init cX8_init 1 none ({ frames := 1, cells := 1, slots := 1000, locals := 24 } : Room) [.ref h] [(h, .inr (8, [.null, .int 0, .int 0, .int 0, .int 0, .int 0, .long 0, .null]))] (fun r w1 => ∃ (hg : Nat), r = none ∧ w1 = [(h, .inr (8, [.ref hg, .int 0, .int 0, .int 0, .int 0, .int 0, .long 0, .ref γ.2.2.2.1])), (hg, .inl (γ.2.1 2, 1000, .inl (fun _ => 0)))]) := by
  refine k_ofW (by decide) (Nat.le_of_ble_eq_true rfl) ?_
  intro p9 e s m below meth c A ls hC hr hlocks hname hw hl
  have hx := hC.1
  have hb := hC.2.1
  have hin : meth.name = "<init>" := hname
  have hl : lv_has ls 1 [(0, .ref h)] := hl
  refine lv_aload_n hx hb dX8_init_0 rfl (lv_at hl 0 rfl) ?_
  refine k_objInit hC gw_36 hl.1 (by decide) (Nat.le_of_ble_eq_true rfl) dX8_init_1 ?_
  refine W.eq (g2 := F0 m 4 ls []) rfl ?_
  refine lv_aload_n hx hb dX8_init_4 rfl (lv_at hl 0 rfl) ?_
  refine lv_sipush (v := 1000) hx hb dX8_init_5 (by decide) ?_
  refine k_newa (atype := .byte) (N' := 1000) (a0 := (1000, .inl (fun _ => 0))) hC hw rfl gw_70 2 rfl (fun _ h => by cases h) (fun _ => rfl) (by decide) (by decide) (by decide) (by decide) (by decide) dX8_init_8 (fun q_90 H hw => ?_)
  have hw : kW γ A [(h, .inr (8, [.null, .int 0, .int 0, .int 0, .int 0, .int 0, .long 0, .null])), (q_90, .inl (γ.2.1 2, 1000, .inl (fun _ => 0)))] s H [] := hw
  refine W.widen (k := 1) (n := 1000) (by decide) (by decide) ?_
  refine fs_RX8_9 hC hw hin 0 rfl rfl rfl (Nat.le_of_ble_eq_true rfl) dX8_init_10 (fun H locs hw => ?_)
  have hw : kW γ A [(h, .inr (8, [.ref q_90, .int 0, .int 0, .int 0, .int 0, .int 0, .long 0, .null])), (q_90, .inl (γ.2.1 2, 1000, .inl (fun _ => 0)))] s H locs := hw
  refine lv_aload_n hx hb dX8_init_13 rfl (lv_at hl 0 rfl) ?_
  refine k_nothing hC hw gw_37 dX8_init_14 ?_
  refine fs_RX8_21 hC hw 0 rfl rfl rfl (Nat.le_of_ble_eq_true rfl) dX8_init_17 (fun H locs hw => ?_)
  have hw : kW γ A [(h, .inr (8, [.ref q_90, .int 0, .int 0, .int 0, .int 0, .int 0, .long 0, .ref γ.2.2.2.1])), (q_90, .inl (γ.2.1 2, 1000, .inl (fun _ => 0)))] s H locs := hw
  exact k_vret hC hr hlocks hw [0, 1] rfl rfl ⟨q_90, rfl, rfl⟩ (by decide) (by decide) dX8_init_20

set_option maxHeartbeats 4000000 in
set_option maxRecDepth 100000 in
theorem c_X5_init (γ : kΓ) (l : Launch) (h : Nat) (t : Nat) (b : Nat) : kM γ l yX5_init cX5_init 3 none ({ frames := 1, cells := 1, slots := 40, locals := 24 } : Room) [.ref h, .ref t, .ref b] [(h, .inr (5, [.null, .null, .null, .int 0, .int 0]))] (fun r w1 => ∃ (hn : Nat), r = none ∧ w1 = [(h, .inr (5, [.ref t, .ref hn, .ref b, .int 0, .int 0])), (hn, .inl (γ.2.1 0, 40, .inl (fun _ => 0)))]) := by
  refine k_ofW (by decide) (Nat.le_of_ble_eq_true rfl) ?_
  intro p9 e s m below meth c A ls hC hr hlocks hname hw hl
  have hx := hC.1
  have hb := hC.2.1
  have hin : meth.name = "<init>" := hname
  have hl : lv_has ls 3 [(0, .ref h), (1, .ref t), (2, .ref b)] := hl
  refine lv_aload_n hx hb dX5_init_0 rfl (lv_at hl 0 rfl) ?_
  refine k_objInit hC gw_384 hl.1 (by decide) (Nat.le_of_ble_eq_true rfl) dX5_init_1 ?_
  refine W.eq (g2 := F0 m 4 ls []) rfl ?_
  refine lv_aload_n hx hb dX5_init_4 rfl (lv_at hl 0 rfl) ?_
  refine lv_bipush (v := 40) hx hb dX5_init_5 (by decide) ?_
  refine k_newa (atype := .int) (N' := 40) (a0 := (40, .inl (fun _ => 0))) hC hw rfl gw_132 0 rfl (fun _ h => by cases h) (fun _ => rfl) (by decide) (by decide) (by decide) (by decide) (by decide) dX5_init_7 (fun q_91 H hw => ?_)
  have hw : kW γ A [(h, .inr (5, [.null, .null, .null, .int 0, .int 0])), (q_91, .inl (γ.2.1 0, 40, .inl (fun _ => 0)))] s H [] := hw
  refine W.widen (k := 1) (n := 40) (by decide) (by decide) ?_
  refine fs_RX5_9 hC hw hin 0 rfl rfl rfl (Nat.le_of_ble_eq_true rfl) dX5_init_9 (fun H locs hw => ?_)
  have hw : kW γ A [(h, .inr (5, [.null, .ref q_91, .null, .int 0, .int 0])), (q_91, .inl (γ.2.1 0, 40, .inl (fun _ => 0)))] s H locs := hw
  refine lv_aload_n hx hb dX5_init_12 rfl (lv_at hl 0 rfl) ?_
  refine lv_aload_n hx hb dX5_init_13 rfl (lv_at hl 1 rfl) ?_
  refine fs_RX5_15 hC hw hin 0 rfl rfl rfl (Nat.le_of_ble_eq_true rfl) dX5_init_14 (fun H locs hw => ?_)
  have hw : kW γ A [(h, .inr (5, [.ref t, .ref q_91, .null, .int 0, .int 0])), (q_91, .inl (γ.2.1 0, 40, .inl (fun _ => 0)))] s H locs := hw
  refine lv_aload_n hx hb dX5_init_17 rfl (lv_at hl 0 rfl) ?_
  refine lv_aload_n hx hb dX5_init_18 rfl (lv_at hl 2 rfl) ?_
  refine fs_RX5_19 hC hw 0 rfl rfl rfl (Nat.le_of_ble_eq_true rfl) dX5_init_19 (fun H locs hw => ?_)
  have hw : kW γ A [(h, .inr (5, [.ref t, .ref q_91, .ref b, .int 0, .int 0])), (q_91, .inl (γ.2.1 0, 40, .inl (fun _ => 0)))] s H locs := hw
  exact k_vret hC hr hlocks hw [0, 1] rfl rfl ⟨q_91, rfl, rfl⟩ (by decide) (by decide) dX5_init_22


theorem dX3_init_0 : decode cX3_init 0 = .ok (.aload_n 0, 1) := by decide +kernel
theorem dX3_init_1 : decode cX3_init 1 = .ok (.invokespecial 3, 3) := by decide +kernel
theorem dX3_init_4 : decode cX3_init 4 = .ok (.aload_n 0, 1) := by decide +kernel
theorem dX3_init_5 : decode cX3_init 5 = .ok (.new 9, 3) := by decide +kernel
theorem dX3_init_8 : decode cX3_init 8 = .ok (.dup, 1) := by decide +kernel
theorem dX3_init_9 : decode cX3_init 9 = .ok (.invokespecial 11, 3) := by decide +kernel
theorem dX3_init_12 : decode cX3_init 12 = .ok (.putfield 12, 3) := by decide +kernel
theorem dX3_init_15 : decode cX3_init 15 = .ok (.aload_n 0, 1) := by decide +kernel
theorem dX3_init_16 : decode cX3_init 16 = .ok (.bipush 40, 2) := by decide +kernel
theorem dX3_init_18 : decode cX3_init 18 = .ok (.newarray .int, 2) := by decide +kernel
theorem dX3_init_20 : decode cX3_init 20 = .ok (.putfield 18, 3) := by decide +kernel
theorem dX3_init_23 : decode cX3_init 23 = .ok (.aload_n 0, 1) := by decide +kernel
theorem dX3_init_24 : decode cX3_init 24 = .ok (.bipush 8, 2) := by decide +kernel
theorem dX3_init_26 : decode cX3_init 26 = .ok (.newarray .int, 2) := by decide +kernel
theorem dX3_init_28 : decode cX3_init 28 = .ok (.putfield 22, 3) := by decide +kernel
theorem dX3_init_31 : decode cX3_init 31 = .ok (.return_, 1) := by decide +kernel
set_option maxHeartbeats 4000000 in
set_option maxRecDepth 100000 in
theorem c_X3_init (γ : kΓ) (l : Launch) (h : Nat) : kM γ l yX3_init cX3_init 1 none ({ frames := 3, cells := 9, slots := 125, locals := 64 } : Room) [.ref h] [(h, .inr (3, [.null, .null, .null, .int 0, .int 0, .int 0]))] (fun r w1 => ∃ (hs : Nat), ∃ (hs_l : Nat), ∃ (hs_c : Nat), ∃ (hs_g : Nat), ∃ (hs_r : Nat), ∃ (hs_k : Nat), ∃ (hs_b : Nat), ∃ (hy : Nat), ∃ (hq : Nat), ∃ (ghs_l : Nat → Int32), ∃ (ghs_c : Nat → Int32), ∃ (ghs_g : Nat → Int32), ∃ (ghs_r : Nat → Int64), ∃ (ghs_k : Nat → Int32), ∃ (ghs_b : Nat → Int32), ∃ (ghy : Nat → Int32), ∃ (ghq : Nat → Int32), r = none ∧ w1 = [(h, .inr (3, [.ref hs, .ref hy, .ref hq, .int 0, .int 0, .int 0])), (hs, .inr (7, [.ref hs_l, .ref hs_c, .ref hs_g, .ref hs_r, .ref hs_k, .ref hs_b, .int 0, .int 0, .int 0])), (hs_l, .inl (γ.2.1 0, 5, .inl ghs_l)), (hs_c, .inl (γ.2.1 0, 5, .inl ghs_c)), (hs_g, .inl (γ.2.1 0, 5, .inl ghs_g)), (hs_r, .inl (γ.2.1 1, 5, .inr (.inl ghs_r))), (hs_k, .inl (γ.2.1 0, 40, .inl ghs_k)), (hs_b, .inl (γ.2.1 0, 8, .inl ghs_b)), (hy, .inl (γ.2.1 0, 40, .inl ghy)), (hq, .inl (γ.2.1 0, 8, .inl ghq))] ∧ (∀ j, j < 5 → ghs_l j = (-1)) ∧ (∀ j, j < 5 → ghs_c j = 0) ∧ (∀ j, j < 5 → ghs_g j = 0) ∧ (∀ j, j < 5 → ghs_r j = 0) ∧ (∀ j, j < 40 → ghs_k j = 0) ∧ (∀ j, j < 8 → ghs_b j = 0)) := by
  refine k_ofW (by decide) (Nat.le_of_ble_eq_true rfl) ?_
  intro p9 e s m below meth c A ls hC hr hlocks hname hw hl
  have hx := hC.1
  have hb := hC.2.1
  have hin : meth.name = "<init>" := hname
  have hl : lv_has ls 1 [(0, .ref h)] := hl
  refine lv_aload_n hx hb dX3_init_0 rfl (lv_at hl 0 rfl) ?_
  refine k_objInit hC gw_150 hl.1 (by decide) (Nat.le_of_ble_eq_true rfl) dX3_init_1 ?_
  refine W.eq (g2 := F0 m 4 ls []) rfl ?_
  refine lv_aload_n hx hb dX3_init_4 rfl (lv_at hl 0 rfl) ?_
  refine k_new (ci := 7) hC hw in_RX7 tyX7 tyX7_ok gw_151 gw_79 gw_6 rfl nf_RX7 (by decide) (by decide) dX3_init_5 (fun q_41 H hw => ?_)
  have hw : kW γ A [(h, .inr (3, [.null, .null, .null, .int 0, .int 0, .int 0])), (q_41, .inr (7, [.null, .null, .null, .null, .null, .null, .int 0, .int 0, .int 0]))] s H [] := hw
  refine W.widen (k := 1) (n := 9) (by decide) (by decide) ?_
  refine lv_dup hx hb dX3_init_8 rfl ?_
  refine k_I (wr := [(h, .inr (3, [.null, .null, .null, .int 0, .int 0, .int 0]))]) 0 gw_152 gw_81 gw_6 gw_82 rfl hd_X7_init hC hw (c_X7_init γ l q_41) ⟨by decide, by decide⟩ ⟨by decide, by decide⟩ hl.1 rfl rfl (Nat.le_of_ble_eq_true rfl) [1] [0] rfl rfl rfl rfl (by decide) dX3_init_9 (fun r w1 H locs hq hw => ?_)
  obtain ⟨h_l_42, h_c_43, h_g_44, h_r_45, h_k_46, h_b_47, gh_l_48, gh_c_49, gh_g_50, gh_r_51, gh_k_52, gh_b_53, rfl, rfl, g_54, g_55, g_56, g_57, g_58, g_59⟩ := hq
  have hw : kW γ A [(h, .inr (3, [.null, .null, .null, .int 0, .int 0, .int 0])), (q_41, .inr (7, [.ref h_l_42, .ref h_c_43, .ref h_g_44, .ref h_r_45, .ref h_k_46, .ref h_b_47, .int 0, .int 0, .int 0])), (h_l_42, .inl (γ.2.1 0, 5, .inl gh_l_48)), (h_c_43, .inl (γ.2.1 0, 5, .inl gh_c_49)), (h_g_44, .inl (γ.2.1 0, 5, .inl gh_g_50)), (h_r_45, .inl (γ.2.1 1, 5, .inr (.inl gh_r_51))), (h_k_46, .inl (γ.2.1 0, 40, .inl gh_k_52)), (h_b_47, .inl (γ.2.1 0, 8, .inl gh_b_53))] s H locs := hw
  refine W.eq (g2 := F0 m 12 ls [.ref q_41, .ref h]) rfl ?_
  refine W.widen (k := 7) (n := 77) (by decide) (by decide) ?_
  refine fs_RX3_12 hC hw hin 0 rfl rfl rfl (Nat.le_of_ble_eq_true rfl) dX3_init_12 (fun H locs hw => ?_)
  have hw : kW γ A [(h, .inr (3, [.ref q_41, .null, .null, .int 0, .int 0, .int 0])), (q_41, .inr (7, [.ref h_l_42, .ref h_c_43, .ref h_g_44, .ref h_r_45, .ref h_k_46, .ref h_b_47, .int 0, .int 0, .int 0])), (h_l_42, .inl (γ.2.1 0, 5, .inl gh_l_48)), (h_c_43, .inl (γ.2.1 0, 5, .inl gh_c_49)), (h_g_44, .inl (γ.2.1 0, 5, .inl gh_g_50)), (h_r_45, .inl (γ.2.1 1, 5, .inr (.inl gh_r_51))), (h_k_46, .inl (γ.2.1 0, 40, .inl gh_k_52)), (h_b_47, .inl (γ.2.1 0, 8, .inl gh_b_53))] s H locs := hw
  refine lv_aload_n hx hb dX3_init_15 rfl (lv_at hl 0 rfl) ?_
  refine lv_bipush (v := 40) hx hb dX3_init_16 (by decide) ?_
  refine k_newa (atype := .int) (N' := 40) (a0 := (40, .inl (fun _ => 0))) hC hw rfl gw_132 0 rfl (fun _ h => by cases h) (fun _ => rfl) (by decide) (by decide) (by decide) (by decide) (by decide) dX3_init_18 (fun q_60 H hw => ?_)
  have hw : kW γ A [(h, .inr (3, [.ref q_41, .null, .null, .int 0, .int 0, .int 0])), (q_41, .inr (7, [.ref h_l_42, .ref h_c_43, .ref h_g_44, .ref h_r_45, .ref h_k_46, .ref h_b_47, .int 0, .int 0, .int 0])), (h_l_42, .inl (γ.2.1 0, 5, .inl gh_l_48)), (h_c_43, .inl (γ.2.1 0, 5, .inl gh_c_49)), (h_g_44, .inl (γ.2.1 0, 5, .inl gh_g_50)), (h_r_45, .inl (γ.2.1 1, 5, .inr (.inl gh_r_51))), (h_k_46, .inl (γ.2.1 0, 40, .inl gh_k_52)), (h_b_47, .inl (γ.2.1 0, 8, .inl gh_b_53)), (q_60, .inl (γ.2.1 0, 40, .inl (fun _ => 0)))] s H locs := hw
  refine W.widen (k := 8) (n := 117) (by decide) (by decide) ?_
  refine fs_RX3_18 hC hw hin 0 rfl rfl rfl (Nat.le_of_ble_eq_true rfl) dX3_init_20 (fun H locs hw => ?_)
  have hw : kW γ A [(h, .inr (3, [.ref q_41, .ref q_60, .null, .int 0, .int 0, .int 0])), (q_41, .inr (7, [.ref h_l_42, .ref h_c_43, .ref h_g_44, .ref h_r_45, .ref h_k_46, .ref h_b_47, .int 0, .int 0, .int 0])), (h_l_42, .inl (γ.2.1 0, 5, .inl gh_l_48)), (h_c_43, .inl (γ.2.1 0, 5, .inl gh_c_49)), (h_g_44, .inl (γ.2.1 0, 5, .inl gh_g_50)), (h_r_45, .inl (γ.2.1 1, 5, .inr (.inl gh_r_51))), (h_k_46, .inl (γ.2.1 0, 40, .inl gh_k_52)), (h_b_47, .inl (γ.2.1 0, 8, .inl gh_b_53)), (q_60, .inl (γ.2.1 0, 40, .inl (fun _ => 0)))] s H locs := hw
  refine lv_aload_n hx hb dX3_init_23 rfl (lv_at hl 0 rfl) ?_
  refine lv_bipush (v := 8) hx hb dX3_init_24 (by decide) ?_
  refine k_newa (atype := .int) (N' := 8) (a0 := (8, .inl (fun _ => 0))) hC hw rfl gw_132 0 rfl (fun _ h => by cases h) (fun _ => rfl) (by decide) (by decide) (by decide) (by decide) (by decide) dX3_init_26 (fun q_61 H hw => ?_)
  have hw : kW γ A [(h, .inr (3, [.ref q_41, .ref q_60, .null, .int 0, .int 0, .int 0])), (q_41, .inr (7, [.ref h_l_42, .ref h_c_43, .ref h_g_44, .ref h_r_45, .ref h_k_46, .ref h_b_47, .int 0, .int 0, .int 0])), (h_l_42, .inl (γ.2.1 0, 5, .inl gh_l_48)), (h_c_43, .inl (γ.2.1 0, 5, .inl gh_c_49)), (h_g_44, .inl (γ.2.1 0, 5, .inl gh_g_50)), (h_r_45, .inl (γ.2.1 1, 5, .inr (.inl gh_r_51))), (h_k_46, .inl (γ.2.1 0, 40, .inl gh_k_52)), (h_b_47, .inl (γ.2.1 0, 8, .inl gh_b_53)), (q_60, .inl (γ.2.1 0, 40, .inl (fun _ => 0))), (q_61, .inl (γ.2.1 0, 8, .inl (fun _ => 0)))] s H locs := hw
  refine W.widen (k := 9) (n := 125) (by decide) (by decide) ?_
  refine fs_RX3_22 hC hw hin 0 rfl rfl rfl (Nat.le_of_ble_eq_true rfl) dX3_init_28 (fun H locs hw => ?_)
  have hw : kW γ A [(h, .inr (3, [.ref q_41, .ref q_60, .ref q_61, .int 0, .int 0, .int 0])), (q_41, .inr (7, [.ref h_l_42, .ref h_c_43, .ref h_g_44, .ref h_r_45, .ref h_k_46, .ref h_b_47, .int 0, .int 0, .int 0])), (h_l_42, .inl (γ.2.1 0, 5, .inl gh_l_48)), (h_c_43, .inl (γ.2.1 0, 5, .inl gh_c_49)), (h_g_44, .inl (γ.2.1 0, 5, .inl gh_g_50)), (h_r_45, .inl (γ.2.1 1, 5, .inr (.inl gh_r_51))), (h_k_46, .inl (γ.2.1 0, 40, .inl gh_k_52)), (h_b_47, .inl (γ.2.1 0, 8, .inl gh_b_53)), (q_60, .inl (γ.2.1 0, 40, .inl (fun _ => 0))), (q_61, .inl (γ.2.1 0, 8, .inl (fun _ => 0)))] s H locs := hw
  exact k_vret hC hr hlocks hw [0, 1, 2, 3, 4, 5, 6, 7, 8, 9] rfl rfl ⟨q_41, h_l_42, h_c_43, h_g_44, h_r_45, h_k_46, h_b_47, q_60, q_61, gh_l_48, gh_c_49, gh_g_50, gh_r_51, gh_k_52, gh_b_53, (fun _ => 0), (fun _ => 0), rfl, rfl, g_54, g_55, g_56, g_57, g_58, g_59⟩ (by decide) (by decide) dX3_init_31


theorem dX0_clear_0 : decode cX0_clear 0 = .ok (.aload_n 0, 1) := by decide +kernel
theorem dX0_clear_1 : decode cX0_clear 1 = .ok (.iconst 0, 1) := by decide +kernel
theorem dX0_clear_2 : decode cX0_clear 2 = .ok (.putfield 40, 3) := by decide +kernel
theorem dX0_clear_5 : decode cX0_clear 5 = .ok (.aload_n 0, 1) := by decide +kernel
theorem dX0_clear_6 : decode cX0_clear 6 = .ok (.iconst 0, 1) := by decide +kernel
theorem dX0_clear_7 : decode cX0_clear 7 = .ok (.putfield 44, 3) := by decide +kernel
theorem dX0_clear_10 : decode cX0_clear 10 = .ok (.aload_n 0, 1) := by decide +kernel
theorem dX0_clear_11 : decode cX0_clear 11 = .ok (.bipush 10, 2) := by decide +kernel
theorem dX0_clear_13 : decode cX0_clear 13 = .ok (.putfield 47, 3) := by decide +kernel
theorem dX0_clear_16 : decode cX0_clear 16 = .ok (.aload_n 0, 1) := by decide +kernel
theorem dX0_clear_17 : decode cX0_clear 17 = .ok (.bipush 10, 2) := by decide +kernel
theorem dX0_clear_19 : decode cX0_clear 19 = .ok (.putfield 50, 3) := by decide +kernel
theorem dX0_clear_22 : decode cX0_clear 22 = .ok (.aload_n 0, 1) := by decide +kernel
theorem dX0_clear_23 : decode cX0_clear 23 = .ok (.iconst 3, 1) := by decide +kernel
theorem dX0_clear_24 : decode cX0_clear 24 = .ok (.putfield 53, 3) := by decide +kernel
theorem dX0_clear_27 : decode cX0_clear 27 = .ok (.aload_n 0, 1) := by decide +kernel
theorem dX0_clear_28 : decode cX0_clear 28 = .ok (.iconst 0, 1) := by decide +kernel
theorem dX0_clear_29 : decode cX0_clear 29 = .ok (.putfield 56, 3) := by decide +kernel
theorem dX0_clear_32 : decode cX0_clear 32 = .ok (.aload_n 0, 1) := by decide +kernel
theorem dX0_clear_33 : decode cX0_clear 33 = .ok (.iconst 0, 1) := by decide +kernel
theorem dX0_clear_34 : decode cX0_clear 34 = .ok (.putfield 59, 3) := by decide +kernel
theorem dX0_clear_37 : decode cX0_clear 37 = .ok (.return_, 1) := by decide +kernel
theorem dX0_init_0 : decode cX0_init 0 = .ok (.aload_n 0, 1) := by decide +kernel
theorem dX0_init_1 : decode cX0_init 1 = .ok (.invokespecial 3, 3) := by decide +kernel
theorem dX0_init_4 : decode cX0_init 4 = .ok (.aload_n 0, 1) := by decide +kernel
theorem dX0_init_5 : decode cX0_init 5 = .ok (.bipush 8, 2) := by decide +kernel
theorem dX0_init_7 : decode cX0_init 7 = .ok (.newarray .long, 2) := by decide +kernel
theorem dX0_init_9 : decode cX0_init 9 = .ok (.putfield 9, 3) := by decide +kernel
theorem dX0_init_12 : decode cX0_init 12 = .ok (.aload_n 0, 1) := by decide +kernel
theorem dX0_init_13 : decode cX0_init 13 = .ok (.bipush 8, 2) := by decide +kernel
theorem dX0_init_15 : decode cX0_init 15 = .ok (.newarray .int, 2) := by decide +kernel
theorem dX0_init_17 : decode cX0_init 17 = .ok (.putfield 15, 3) := by decide +kernel
theorem dX0_init_20 : decode cX0_init 20 = .ok (.aload_n 0, 1) := by decide +kernel
theorem dX0_init_21 : decode cX0_init 21 = .ok (.bipush 8, 2) := by decide +kernel
theorem dX0_init_23 : decode cX0_init 23 = .ok (.newarray .int, 2) := by decide +kernel
theorem dX0_init_25 : decode cX0_init 25 = .ok (.putfield 19, 3) := by decide +kernel
theorem dX0_init_28 : decode cX0_init 28 = .ok (.aload_n 0, 1) := by decide +kernel
theorem dX0_init_29 : decode cX0_init 29 = .ok (.bipush 8, 2) := by decide +kernel
theorem dX0_init_31 : decode cX0_init 31 = .ok (.newarray .int, 2) := by decide +kernel
theorem dX0_init_33 : decode cX0_init 33 = .ok (.putfield 22, 3) := by decide +kernel
theorem dX0_init_36 : decode cX0_init 36 = .ok (.aload_n 0, 1) := by decide +kernel
theorem dX0_init_37 : decode cX0_init 37 = .ok (.iconst 5, 1) := by decide +kernel
theorem dX0_init_38 : decode cX0_init 38 = .ok (.newarray .long, 2) := by decide +kernel
theorem dX0_init_40 : decode cX0_init 40 = .ok (.putfield 25, 3) := by decide +kernel
theorem dX0_init_43 : decode cX0_init 43 = .ok (.aload_n 0, 1) := by decide +kernel
theorem dX0_init_44 : decode cX0_init 44 = .ok (.iconst 5, 1) := by decide +kernel
theorem dX0_init_45 : decode cX0_init 45 = .ok (.newarray .int, 2) := by decide +kernel
theorem dX0_init_47 : decode cX0_init 47 = .ok (.putfield 28, 3) := by decide +kernel
theorem dX0_init_50 : decode cX0_init 50 = .ok (.aload_n 0, 1) := by decide +kernel
theorem dX0_init_51 : decode cX0_init 51 = .ok (.sipush 1000, 3) := by decide +kernel
theorem dX0_init_54 : decode cX0_init 54 = .ok (.newarray .int, 2) := by decide +kernel
theorem dX0_init_56 : decode cX0_init 56 = .ok (.putfield 31, 3) := by decide +kernel
theorem dX0_init_59 : decode cX0_init 59 = .ok (.aload_n 0, 1) := by decide +kernel
theorem dX0_init_60 : decode cX0_init 60 = .ok (.bipush 32, 2) := by decide +kernel
theorem dX0_init_62 : decode cX0_init 62 = .ok (.newarray .int, 2) := by decide +kernel
theorem dX0_init_64 : decode cX0_init 64 = .ok (.putfield 34, 3) := by decide +kernel
theorem dX0_init_67 : decode cX0_init 67 = .ok (.aload_n 0, 1) := by decide +kernel
theorem dX0_init_68 : decode cX0_init 68 = .ok (.invokevirtual 37, 3) := by decide +kernel
theorem dX0_init_71 : decode cX0_init 71 = .ok (.return_, 1) := by decide +kernel
theorem dX7_clear_0 : decode cX7_clear 0 = .ok (.aload_n 0, 1) := by decide +kernel
theorem dX7_clear_1 : decode cX7_clear 1 = .ok (.getfield 9, 3) := by decide +kernel
theorem dX7_clear_4 : decode cX7_clear 4 = .ok (.iconst (-1), 1) := by decide +kernel
theorem dX7_clear_5 : decode cX7_clear 5 = .ok (.invokestatic 34, 3) := by decide +kernel
theorem dX7_clear_8 : decode cX7_clear 8 = .ok (.aload_n 0, 1) := by decide +kernel
theorem dX7_clear_9 : decode cX7_clear 9 = .ok (.getfield 15, 3) := by decide +kernel
theorem dX7_clear_12 : decode cX7_clear 12 = .ok (.iconst 0, 1) := by decide +kernel
theorem dX7_clear_13 : decode cX7_clear 13 = .ok (.invokestatic 34, 3) := by decide +kernel
theorem dX7_clear_16 : decode cX7_clear 16 = .ok (.aload_n 0, 1) := by decide +kernel
theorem dX7_clear_17 : decode cX7_clear 17 = .ok (.getfield 18, 3) := by decide +kernel
theorem dX7_clear_20 : decode cX7_clear 20 = .ok (.iconst 0, 1) := by decide +kernel
theorem dX7_clear_21 : decode cX7_clear 21 = .ok (.invokestatic 34, 3) := by decide +kernel
theorem dX7_clear_24 : decode cX7_clear 24 = .ok (.aload_n 0, 1) := by decide +kernel
theorem dX7_clear_25 : decode cX7_clear 25 = .ok (.getfield 21, 3) := by decide +kernel
theorem dX7_clear_28 : decode cX7_clear 28 = .ok (.lconst 0, 1) := by decide +kernel
theorem dX7_clear_29 : decode cX7_clear 29 = .ok (.invokestatic 40, 3) := by decide +kernel
theorem dX7_clear_32 : decode cX7_clear 32 = .ok (.aload_n 0, 1) := by decide +kernel
theorem dX7_clear_33 : decode cX7_clear 33 = .ok (.getfield 25, 3) := by decide +kernel
theorem dX7_clear_36 : decode cX7_clear 36 = .ok (.iconst 0, 1) := by decide +kernel
theorem dX7_clear_37 : decode cX7_clear 37 = .ok (.invokestatic 34, 3) := by decide +kernel
theorem dX7_clear_40 : decode cX7_clear 40 = .ok (.aload_n 0, 1) := by decide +kernel
theorem dX7_clear_41 : decode cX7_clear 41 = .ok (.getfield 28, 3) := by decide +kernel
theorem dX7_clear_44 : decode cX7_clear 44 = .ok (.iconst 0, 1) := by decide +kernel
theorem dX7_clear_45 : decode cX7_clear 45 = .ok (.invokestatic 34, 3) := by decide +kernel
theorem dX7_clear_48 : decode cX7_clear 48 = .ok (.aload_n 0, 1) := by decide +kernel
theorem dX7_clear_49 : decode cX7_clear 49 = .ok (.iconst 0, 1) := by decide +kernel
theorem dX7_clear_50 : decode cX7_clear 50 = .ok (.putfield 43, 3) := by decide +kernel
theorem dX7_clear_53 : decode cX7_clear 53 = .ok (.aload_n 0, 1) := by decide +kernel
theorem dX7_clear_54 : decode cX7_clear 54 = .ok (.iconst 0, 1) := by decide +kernel
theorem dX7_clear_55 : decode cX7_clear 55 = .ok (.putfield 47, 3) := by decide +kernel
theorem dX7_clear_58 : decode cX7_clear 58 = .ok (.aload_n 0, 1) := by decide +kernel
theorem dX7_clear_59 : decode cX7_clear 59 = .ok (.iconst 0, 1) := by decide +kernel
theorem dX7_clear_60 : decode cX7_clear 60 = .ok (.putfield 50, 3) := by decide +kernel
theorem dX7_clear_63 : decode cX7_clear 63 = .ok (.return_, 1) := by decide +kernel
theorem dX7_init_0 : decode cX7_init 0 = .ok (.aload_n 0, 1) := by decide +kernel
theorem dX7_init_1 : decode cX7_init 1 = .ok (.invokespecial 3, 3) := by decide +kernel
theorem dX7_init_4 : decode cX7_init 4 = .ok (.aload_n 0, 1) := by decide +kernel
theorem dX7_init_5 : decode cX7_init 5 = .ok (.iconst 5, 1) := by decide +kernel
theorem dX7_init_6 : decode cX7_init 6 = .ok (.newarray .int, 2) := by decide +kernel
theorem dX7_init_8 : decode cX7_init 8 = .ok (.putfield 9, 3) := by decide +kernel
theorem dX7_init_11 : decode cX7_init 11 = .ok (.aload_n 0, 1) := by decide +kernel
theorem dX7_init_12 : decode cX7_init 12 = .ok (.iconst 5, 1) := by decide +kernel
theorem dX7_init_13 : decode cX7_init 13 = .ok (.newarray .int, 2) := by decide +kernel
theorem dX7_init_15 : decode cX7_init 15 = .ok (.putfield 15, 3) := by decide +kernel
theorem dX7_init_18 : decode cX7_init 18 = .ok (.aload_n 0, 1) := by decide +kernel
theorem dX7_init_19 : decode cX7_init 19 = .ok (.iconst 5, 1) := by decide +kernel
theorem dX7_init_20 : decode cX7_init 20 = .ok (.newarray .int, 2) := by decide +kernel
theorem dX7_init_22 : decode cX7_init 22 = .ok (.putfield 18, 3) := by decide +kernel
theorem dX7_init_25 : decode cX7_init 25 = .ok (.aload_n 0, 1) := by decide +kernel
theorem dX7_init_26 : decode cX7_init 26 = .ok (.iconst 5, 1) := by decide +kernel
theorem dX7_init_27 : decode cX7_init 27 = .ok (.newarray .long, 2) := by decide +kernel
theorem dX7_init_29 : decode cX7_init 29 = .ok (.putfield 21, 3) := by decide +kernel
theorem dX7_init_32 : decode cX7_init 32 = .ok (.aload_n 0, 1) := by decide +kernel
theorem dX7_init_33 : decode cX7_init 33 = .ok (.bipush 40, 2) := by decide +kernel
theorem dX7_init_35 : decode cX7_init 35 = .ok (.newarray .int, 2) := by decide +kernel
theorem dX7_init_37 : decode cX7_init 37 = .ok (.putfield 25, 3) := by decide +kernel
theorem dX7_init_40 : decode cX7_init 40 = .ok (.aload_n 0, 1) := by decide +kernel
theorem dX7_init_41 : decode cX7_init 41 = .ok (.bipush 8, 2) := by decide +kernel
theorem dX7_init_43 : decode cX7_init 43 = .ok (.newarray .int, 2) := by decide +kernel
theorem dX7_init_45 : decode cX7_init 45 = .ok (.putfield 28, 3) := by decide +kernel
theorem dX7_init_48 : decode cX7_init 48 = .ok (.aload_n 0, 1) := by decide +kernel
theorem dX7_init_49 : decode cX7_init 49 = .ok (.invokevirtual 31, 3) := by decide +kernel
theorem dX7_init_52 : decode cX7_init 52 = .ok (.return_, 1) := by decide +kernel
set_option maxHeartbeats 4000000 in
set_option maxRecDepth 100000 in
theorem c_X0_clear (γ : kΓ) (l : Launch) (h : Nat) (h0 : Nat) (h1 : Nat) (h2 : Nat) (h3 : Nat) (h4 : Nat) (h5 : Nat) (h6 : Nat) (h7 : Nat) (x8 : Int32) (x9 : Int32) (x10 : Int32) (x11 : Int32) (x12 : Int32) (x13 : Int32) (x14 : Int32) (x15 : Int32) (x16 : Int32) (x17 : Int32) (x18 : Int32) : kM γ l yX0_clear cX0_clear 1 none ({ frames := 0, cells := 0, slots := 0, locals := 0 } : Room) [.ref h] [(h, .inr (0, [.ref h0, .ref h1, .ref h2, .ref h3, .ref h4, .ref h5, .ref h6, .ref h7, .int x8, .int x9, .int x10, .int x11, .int x12, .int x13, .int x14, .int x15, .int x16, .int x17, .int x18]))] (fun r w1 => r = none ∧ w1 = [(h, .inr (0, [.ref h0, .ref h1, .ref h2, .ref h3, .ref h4, .ref h5, .ref h6, .ref h7, .int 0, .int 0, .int 10, .int 10, .int 3, .int 0, .int 0, .int x15, .int x16, .int x17, .int x18]))]) := by
  refine k_ofW (by decide) (Nat.le_of_ble_eq_true rfl) ?_
  intro p9 e s m below meth c A ls hC hr hlocks hname hw hl
  have hx := hC.1
  have hb := hC.2.1
  have hl : lv_has ls 1 [(0, .ref h)] := hl
  refine lv_aload_n hx hb dX0_clear_0 rfl (lv_at hl 0 rfl) ?_
  refine lv_iconst (v := 0) hx hb dX0_clear_1 (by decide) ?_
  refine fs_RX0_40 hC hw 0 rfl rfl rfl (Nat.le_of_ble_eq_true rfl) dX0_clear_2 (fun H locs hw => ?_)
  have hw : kW γ A [(h, .inr (0, [.ref h0, .ref h1, .ref h2, .ref h3, .ref h4, .ref h5, .ref h6, .ref h7, .int 0, .int x9, .int x10, .int x11, .int x12, .int x13, .int x14, .int x15, .int x16, .int x17, .int x18]))] s H locs := hw
  refine lv_aload_n hx hb dX0_clear_5 rfl (lv_at hl 0 rfl) ?_
  refine lv_iconst (v := 0) hx hb dX0_clear_6 (by decide) ?_
  refine fs_RX0_44 hC hw 0 rfl rfl rfl (Nat.le_of_ble_eq_true rfl) dX0_clear_7 (fun H locs hw => ?_)
  have hw : kW γ A [(h, .inr (0, [.ref h0, .ref h1, .ref h2, .ref h3, .ref h4, .ref h5, .ref h6, .ref h7, .int 0, .int 0, .int x10, .int x11, .int x12, .int x13, .int x14, .int x15, .int x16, .int x17, .int x18]))] s H locs := hw
  refine lv_aload_n hx hb dX0_clear_10 rfl (lv_at hl 0 rfl) ?_
  refine lv_bipush (v := 10) hx hb dX0_clear_11 (by decide) ?_
  refine fs_RX0_47 hC hw 0 rfl rfl rfl (Nat.le_of_ble_eq_true rfl) dX0_clear_13 (fun H locs hw => ?_)
  have hw : kW γ A [(h, .inr (0, [.ref h0, .ref h1, .ref h2, .ref h3, .ref h4, .ref h5, .ref h6, .ref h7, .int 0, .int 0, .int 10, .int x11, .int x12, .int x13, .int x14, .int x15, .int x16, .int x17, .int x18]))] s H locs := hw
  refine lv_aload_n hx hb dX0_clear_16 rfl (lv_at hl 0 rfl) ?_
  refine lv_bipush (v := 10) hx hb dX0_clear_17 (by decide) ?_
  refine fs_RX0_50 hC hw 0 rfl rfl rfl (Nat.le_of_ble_eq_true rfl) dX0_clear_19 (fun H locs hw => ?_)
  have hw : kW γ A [(h, .inr (0, [.ref h0, .ref h1, .ref h2, .ref h3, .ref h4, .ref h5, .ref h6, .ref h7, .int 0, .int 0, .int 10, .int 10, .int x12, .int x13, .int x14, .int x15, .int x16, .int x17, .int x18]))] s H locs := hw
  refine lv_aload_n hx hb dX0_clear_22 rfl (lv_at hl 0 rfl) ?_
  refine lv_iconst (v := 3) hx hb dX0_clear_23 (by decide) ?_
  refine fs_RX0_53 hC hw 0 rfl rfl rfl (Nat.le_of_ble_eq_true rfl) dX0_clear_24 (fun H locs hw => ?_)
  have hw : kW γ A [(h, .inr (0, [.ref h0, .ref h1, .ref h2, .ref h3, .ref h4, .ref h5, .ref h6, .ref h7, .int 0, .int 0, .int 10, .int 10, .int 3, .int x13, .int x14, .int x15, .int x16, .int x17, .int x18]))] s H locs := hw
  refine lv_aload_n hx hb dX0_clear_27 rfl (lv_at hl 0 rfl) ?_
  refine lv_iconst (v := 0) hx hb dX0_clear_28 (by decide) ?_
  refine fs_RX0_56 hC hw 0 rfl rfl rfl (Nat.le_of_ble_eq_true rfl) dX0_clear_29 (fun H locs hw => ?_)
  have hw : kW γ A [(h, .inr (0, [.ref h0, .ref h1, .ref h2, .ref h3, .ref h4, .ref h5, .ref h6, .ref h7, .int 0, .int 0, .int 10, .int 10, .int 3, .int 0, .int x14, .int x15, .int x16, .int x17, .int x18]))] s H locs := hw
  refine lv_aload_n hx hb dX0_clear_32 rfl (lv_at hl 0 rfl) ?_
  refine lv_iconst (v := 0) hx hb dX0_clear_33 (by decide) ?_
  refine fs_RX0_59 hC hw 0 rfl rfl rfl (Nat.le_of_ble_eq_true rfl) dX0_clear_34 (fun H locs hw => ?_)
  have hw : kW γ A [(h, .inr (0, [.ref h0, .ref h1, .ref h2, .ref h3, .ref h4, .ref h5, .ref h6, .ref h7, .int 0, .int 0, .int 10, .int 10, .int 3, .int 0, .int 0, .int x15, .int x16, .int x17, .int x18]))] s H locs := hw
  exact k_vret hC hr hlocks hw [0] rfl rfl ⟨rfl, rfl⟩ (by decide) (by decide) dX0_clear_37

set_option maxHeartbeats 4000000 in
set_option maxRecDepth 100000 in
theorem c_X0_init (γ : kΓ) (l : Launch) (h : Nat) : kM γ l yX0_init cX0_init 1 none ({ frames := 1, cells := 8, slots := 1074, locals := 24 } : Room) [.ref h] [(h, .inr (0, [.null, .null, .null, .null, .null, .null, .null, .null, .int 0, .int 0, .int 0, .int 0, .int 0, .int 0, .int 0, .int 0, .int 0, .int 0, .int 0]))] (fun r w1 => ∃ (a0 : Nat), ∃ (a1 : Nat), ∃ (a2 : Nat), ∃ (a3 : Nat), ∃ (a4 : Nat), ∃ (a5 : Nat), ∃ (a6 : Nat), ∃ (a7 : Nat), r = none ∧ w1 = [(h, .inr (0, [.ref a0, .ref a1, .ref a2, .ref a3, .ref a4, .ref a5, .ref a6, .ref a7, .int 0, .int 0, .int 10, .int 10, .int 3, .int 0, .int 0, .int 0, .int 0, .int 0, .int 0])), (a0, .inl (γ.2.1 1, 8, .inr (.inl (fun _ => 0)))), (a1, .inl (γ.2.1 0, 8, .inl (fun _ => 0))), (a2, .inl (γ.2.1 0, 8, .inl (fun _ => 0))), (a3, .inl (γ.2.1 0, 8, .inl (fun _ => 0))), (a4, .inl (γ.2.1 1, 5, .inr (.inl (fun _ => 0)))), (a5, .inl (γ.2.1 0, 5, .inl (fun _ => 0))), (a6, .inl (γ.2.1 0, 1000, .inl (fun _ => 0))), (a7, .inl (γ.2.1 0, 32, .inl (fun _ => 0)))]) := by
  refine k_ofW (by decide) (Nat.le_of_ble_eq_true rfl) ?_
  intro p9 e s m below meth c A ls hC hr hlocks hname hw hl
  have hx := hC.1
  have hb := hC.2.1
  have hin : meth.name = "<init>" := hname
  have hl : lv_has ls 1 [(0, .ref h)] := hl
  refine lv_aload_n hx hb dX0_init_0 rfl (lv_at hl 0 rfl) ?_
  refine k_objInit hC gw_279 hl.1 (by decide) (Nat.le_of_ble_eq_true rfl) dX0_init_1 ?_
  refine W.eq (g2 := F0 m 4 ls []) rfl ?_
  refine lv_aload_n hx hb dX0_init_4 rfl (lv_at hl 0 rfl) ?_
  refine lv_bipush (v := 8) hx hb dX0_init_5 (by decide) ?_
  refine k_newa (atype := .long) (N' := 8) (a0 := (8, .inr (.inl (fun _ => 0)))) hC hw rfl gw_133 1 rfl (fun _ h => by cases h) (fun _ => rfl) (by decide) (by decide) (by decide) (by decide) (by decide) dX0_init_7 (fun q_3 H hw => ?_)
  have hw : kW γ A [(h, .inr (0, [.null, .null, .null, .null, .null, .null, .null, .null, .int 0, .int 0, .int 0, .int 0, .int 0, .int 0, .int 0, .int 0, .int 0, .int 0, .int 0])), (q_3, .inl (γ.2.1 1, 8, .inr (.inl (fun _ => 0))))] s H [] := hw
  refine W.widen (k := 1) (n := 8) (by decide) (by decide) ?_
  refine fs_RX0_9 hC hw hin 0 rfl rfl rfl (Nat.le_of_ble_eq_true rfl) dX0_init_9 (fun H locs hw => ?_)
  have hw : kW γ A [(h, .inr (0, [.ref q_3, .null, .null, .null, .null, .null, .null, .null, .int 0, .int 0, .int 0, .int 0, .int 0, .int 0, .int 0, .int 0, .int 0, .int 0, .int 0])), (q_3, .inl (γ.2.1 1, 8, .inr (.inl (fun _ => 0))))] s H locs := hw
  refine lv_aload_n hx hb dX0_init_12 rfl (lv_at hl 0 rfl) ?_
  refine lv_bipush (v := 8) hx hb dX0_init_13 (by decide) ?_
  refine k_newa (atype := .int) (N' := 8) (a0 := (8, .inl (fun _ => 0))) hC hw rfl gw_132 0 rfl (fun _ h => by cases h) (fun _ => rfl) (by decide) (by decide) (by decide) (by decide) (by decide) dX0_init_15 (fun q_4 H hw => ?_)
  have hw : kW γ A [(h, .inr (0, [.ref q_3, .null, .null, .null, .null, .null, .null, .null, .int 0, .int 0, .int 0, .int 0, .int 0, .int 0, .int 0, .int 0, .int 0, .int 0, .int 0])), (q_3, .inl (γ.2.1 1, 8, .inr (.inl (fun _ => 0)))), (q_4, .inl (γ.2.1 0, 8, .inl (fun _ => 0)))] s H locs := hw
  refine W.widen (k := 2) (n := 16) (by decide) (by decide) ?_
  refine fs_RX0_15 hC hw hin 0 rfl rfl rfl (Nat.le_of_ble_eq_true rfl) dX0_init_17 (fun H locs hw => ?_)
  have hw : kW γ A [(h, .inr (0, [.ref q_3, .ref q_4, .null, .null, .null, .null, .null, .null, .int 0, .int 0, .int 0, .int 0, .int 0, .int 0, .int 0, .int 0, .int 0, .int 0, .int 0])), (q_3, .inl (γ.2.1 1, 8, .inr (.inl (fun _ => 0)))), (q_4, .inl (γ.2.1 0, 8, .inl (fun _ => 0)))] s H locs := hw
  refine lv_aload_n hx hb dX0_init_20 rfl (lv_at hl 0 rfl) ?_
  refine lv_bipush (v := 8) hx hb dX0_init_21 (by decide) ?_
  refine k_newa (atype := .int) (N' := 8) (a0 := (8, .inl (fun _ => 0))) hC hw rfl gw_132 0 rfl (fun _ h => by cases h) (fun _ => rfl) (by decide) (by decide) (by decide) (by decide) (by decide) dX0_init_23 (fun q_5 H hw => ?_)
  have hw : kW γ A [(h, .inr (0, [.ref q_3, .ref q_4, .null, .null, .null, .null, .null, .null, .int 0, .int 0, .int 0, .int 0, .int 0, .int 0, .int 0, .int 0, .int 0, .int 0, .int 0])), (q_3, .inl (γ.2.1 1, 8, .inr (.inl (fun _ => 0)))), (q_4, .inl (γ.2.1 0, 8, .inl (fun _ => 0))), (q_5, .inl (γ.2.1 0, 8, .inl (fun _ => 0)))] s H locs := hw
  refine W.widen (k := 3) (n := 24) (by decide) (by decide) ?_
  refine fs_RX0_19 hC hw hin 0 rfl rfl rfl (Nat.le_of_ble_eq_true rfl) dX0_init_25 (fun H locs hw => ?_)
  have hw : kW γ A [(h, .inr (0, [.ref q_3, .ref q_4, .ref q_5, .null, .null, .null, .null, .null, .int 0, .int 0, .int 0, .int 0, .int 0, .int 0, .int 0, .int 0, .int 0, .int 0, .int 0])), (q_3, .inl (γ.2.1 1, 8, .inr (.inl (fun _ => 0)))), (q_4, .inl (γ.2.1 0, 8, .inl (fun _ => 0))), (q_5, .inl (γ.2.1 0, 8, .inl (fun _ => 0)))] s H locs := hw
  refine lv_aload_n hx hb dX0_init_28 rfl (lv_at hl 0 rfl) ?_
  refine lv_bipush (v := 8) hx hb dX0_init_29 (by decide) ?_
  refine k_newa (atype := .int) (N' := 8) (a0 := (8, .inl (fun _ => 0))) hC hw rfl gw_132 0 rfl (fun _ h => by cases h) (fun _ => rfl) (by decide) (by decide) (by decide) (by decide) (by decide) dX0_init_31 (fun q_6 H hw => ?_)
  have hw : kW γ A [(h, .inr (0, [.ref q_3, .ref q_4, .ref q_5, .null, .null, .null, .null, .null, .int 0, .int 0, .int 0, .int 0, .int 0, .int 0, .int 0, .int 0, .int 0, .int 0, .int 0])), (q_3, .inl (γ.2.1 1, 8, .inr (.inl (fun _ => 0)))), (q_4, .inl (γ.2.1 0, 8, .inl (fun _ => 0))), (q_5, .inl (γ.2.1 0, 8, .inl (fun _ => 0))), (q_6, .inl (γ.2.1 0, 8, .inl (fun _ => 0)))] s H locs := hw
  refine W.widen (k := 4) (n := 32) (by decide) (by decide) ?_
  refine fs_RX0_22 hC hw hin 0 rfl rfl rfl (Nat.le_of_ble_eq_true rfl) dX0_init_33 (fun H locs hw => ?_)
  have hw : kW γ A [(h, .inr (0, [.ref q_3, .ref q_4, .ref q_5, .ref q_6, .null, .null, .null, .null, .int 0, .int 0, .int 0, .int 0, .int 0, .int 0, .int 0, .int 0, .int 0, .int 0, .int 0])), (q_3, .inl (γ.2.1 1, 8, .inr (.inl (fun _ => 0)))), (q_4, .inl (γ.2.1 0, 8, .inl (fun _ => 0))), (q_5, .inl (γ.2.1 0, 8, .inl (fun _ => 0))), (q_6, .inl (γ.2.1 0, 8, .inl (fun _ => 0)))] s H locs := hw
  refine lv_aload_n hx hb dX0_init_36 rfl (lv_at hl 0 rfl) ?_
  refine lv_iconst (v := 5) hx hb dX0_init_37 (by decide) ?_
  refine k_newa (atype := .long) (N' := 5) (a0 := (5, .inr (.inl (fun _ => 0)))) hC hw rfl gw_133 1 rfl (fun _ h => by cases h) (fun _ => rfl) (by decide) (by decide) (by decide) (by decide) (by decide) dX0_init_38 (fun q_7 H hw => ?_)
  have hw : kW γ A [(h, .inr (0, [.ref q_3, .ref q_4, .ref q_5, .ref q_6, .null, .null, .null, .null, .int 0, .int 0, .int 0, .int 0, .int 0, .int 0, .int 0, .int 0, .int 0, .int 0, .int 0])), (q_3, .inl (γ.2.1 1, 8, .inr (.inl (fun _ => 0)))), (q_4, .inl (γ.2.1 0, 8, .inl (fun _ => 0))), (q_5, .inl (γ.2.1 0, 8, .inl (fun _ => 0))), (q_6, .inl (γ.2.1 0, 8, .inl (fun _ => 0))), (q_7, .inl (γ.2.1 1, 5, .inr (.inl (fun _ => 0))))] s H locs := hw
  refine W.widen (k := 5) (n := 37) (by decide) (by decide) ?_
  refine fs_RX0_25 hC hw hin 0 rfl rfl rfl (Nat.le_of_ble_eq_true rfl) dX0_init_40 (fun H locs hw => ?_)
  have hw : kW γ A [(h, .inr (0, [.ref q_3, .ref q_4, .ref q_5, .ref q_6, .ref q_7, .null, .null, .null, .int 0, .int 0, .int 0, .int 0, .int 0, .int 0, .int 0, .int 0, .int 0, .int 0, .int 0])), (q_3, .inl (γ.2.1 1, 8, .inr (.inl (fun _ => 0)))), (q_4, .inl (γ.2.1 0, 8, .inl (fun _ => 0))), (q_5, .inl (γ.2.1 0, 8, .inl (fun _ => 0))), (q_6, .inl (γ.2.1 0, 8, .inl (fun _ => 0))), (q_7, .inl (γ.2.1 1, 5, .inr (.inl (fun _ => 0))))] s H locs := hw
  refine lv_aload_n hx hb dX0_init_43 rfl (lv_at hl 0 rfl) ?_
  refine lv_iconst (v := 5) hx hb dX0_init_44 (by decide) ?_
  refine k_newa (atype := .int) (N' := 5) (a0 := (5, .inl (fun _ => 0))) hC hw rfl gw_132 0 rfl (fun _ h => by cases h) (fun _ => rfl) (by decide) (by decide) (by decide) (by decide) (by decide) dX0_init_45 (fun q_8 H hw => ?_)
  have hw : kW γ A [(h, .inr (0, [.ref q_3, .ref q_4, .ref q_5, .ref q_6, .ref q_7, .null, .null, .null, .int 0, .int 0, .int 0, .int 0, .int 0, .int 0, .int 0, .int 0, .int 0, .int 0, .int 0])), (q_3, .inl (γ.2.1 1, 8, .inr (.inl (fun _ => 0)))), (q_4, .inl (γ.2.1 0, 8, .inl (fun _ => 0))), (q_5, .inl (γ.2.1 0, 8, .inl (fun _ => 0))), (q_6, .inl (γ.2.1 0, 8, .inl (fun _ => 0))), (q_7, .inl (γ.2.1 1, 5, .inr (.inl (fun _ => 0)))), (q_8, .inl (γ.2.1 0, 5, .inl (fun _ => 0)))] s H locs := hw
  refine W.widen (k := 6) (n := 42) (by decide) (by decide) ?_
  refine fs_RX0_28 hC hw hin 0 rfl rfl rfl (Nat.le_of_ble_eq_true rfl) dX0_init_47 (fun H locs hw => ?_)
  have hw : kW γ A [(h, .inr (0, [.ref q_3, .ref q_4, .ref q_5, .ref q_6, .ref q_7, .ref q_8, .null, .null, .int 0, .int 0, .int 0, .int 0, .int 0, .int 0, .int 0, .int 0, .int 0, .int 0, .int 0])), (q_3, .inl (γ.2.1 1, 8, .inr (.inl (fun _ => 0)))), (q_4, .inl (γ.2.1 0, 8, .inl (fun _ => 0))), (q_5, .inl (γ.2.1 0, 8, .inl (fun _ => 0))), (q_6, .inl (γ.2.1 0, 8, .inl (fun _ => 0))), (q_7, .inl (γ.2.1 1, 5, .inr (.inl (fun _ => 0)))), (q_8, .inl (γ.2.1 0, 5, .inl (fun _ => 0)))] s H locs := hw
  refine lv_aload_n hx hb dX0_init_50 rfl (lv_at hl 0 rfl) ?_
  refine lv_sipush (v := 1000) hx hb dX0_init_51 (by decide) ?_
  refine k_newa (atype := .int) (N' := 1000) (a0 := (1000, .inl (fun _ => 0))) hC hw rfl gw_132 0 rfl (fun _ h => by cases h) (fun _ => rfl) (by decide) (by decide) (by decide) (by decide) (by decide) dX0_init_54 (fun q_9 H hw => ?_)
  have hw : kW γ A [(h, .inr (0, [.ref q_3, .ref q_4, .ref q_5, .ref q_6, .ref q_7, .ref q_8, .null, .null, .int 0, .int 0, .int 0, .int 0, .int 0, .int 0, .int 0, .int 0, .int 0, .int 0, .int 0])), (q_3, .inl (γ.2.1 1, 8, .inr (.inl (fun _ => 0)))), (q_4, .inl (γ.2.1 0, 8, .inl (fun _ => 0))), (q_5, .inl (γ.2.1 0, 8, .inl (fun _ => 0))), (q_6, .inl (γ.2.1 0, 8, .inl (fun _ => 0))), (q_7, .inl (γ.2.1 1, 5, .inr (.inl (fun _ => 0)))), (q_8, .inl (γ.2.1 0, 5, .inl (fun _ => 0))), (q_9, .inl (γ.2.1 0, 1000, .inl (fun _ => 0)))] s H locs := hw
  refine W.widen (k := 7) (n := 1042) (by decide) (by decide) ?_
  refine fs_RX0_31 hC hw hin 0 rfl rfl rfl (Nat.le_of_ble_eq_true rfl) dX0_init_56 (fun H locs hw => ?_)
  have hw : kW γ A [(h, .inr (0, [.ref q_3, .ref q_4, .ref q_5, .ref q_6, .ref q_7, .ref q_8, .ref q_9, .null, .int 0, .int 0, .int 0, .int 0, .int 0, .int 0, .int 0, .int 0, .int 0, .int 0, .int 0])), (q_3, .inl (γ.2.1 1, 8, .inr (.inl (fun _ => 0)))), (q_4, .inl (γ.2.1 0, 8, .inl (fun _ => 0))), (q_5, .inl (γ.2.1 0, 8, .inl (fun _ => 0))), (q_6, .inl (γ.2.1 0, 8, .inl (fun _ => 0))), (q_7, .inl (γ.2.1 1, 5, .inr (.inl (fun _ => 0)))), (q_8, .inl (γ.2.1 0, 5, .inl (fun _ => 0))), (q_9, .inl (γ.2.1 0, 1000, .inl (fun _ => 0)))] s H locs := hw
  refine lv_aload_n hx hb dX0_init_59 rfl (lv_at hl 0 rfl) ?_
  refine lv_bipush (v := 32) hx hb dX0_init_60 (by decide) ?_
  refine k_newa (atype := .int) (N' := 32) (a0 := (32, .inl (fun _ => 0))) hC hw rfl gw_132 0 rfl (fun _ h => by cases h) (fun _ => rfl) (by decide) (by decide) (by decide) (by decide) (by decide) dX0_init_62 (fun q_10 H hw => ?_)
  have hw : kW γ A [(h, .inr (0, [.ref q_3, .ref q_4, .ref q_5, .ref q_6, .ref q_7, .ref q_8, .ref q_9, .null, .int 0, .int 0, .int 0, .int 0, .int 0, .int 0, .int 0, .int 0, .int 0, .int 0, .int 0])), (q_3, .inl (γ.2.1 1, 8, .inr (.inl (fun _ => 0)))), (q_4, .inl (γ.2.1 0, 8, .inl (fun _ => 0))), (q_5, .inl (γ.2.1 0, 8, .inl (fun _ => 0))), (q_6, .inl (γ.2.1 0, 8, .inl (fun _ => 0))), (q_7, .inl (γ.2.1 1, 5, .inr (.inl (fun _ => 0)))), (q_8, .inl (γ.2.1 0, 5, .inl (fun _ => 0))), (q_9, .inl (γ.2.1 0, 1000, .inl (fun _ => 0))), (q_10, .inl (γ.2.1 0, 32, .inl (fun _ => 0)))] s H locs := hw
  refine W.widen (k := 8) (n := 1074) (by decide) (by decide) ?_
  refine fs_RX0_34 hC hw hin 0 rfl rfl rfl (Nat.le_of_ble_eq_true rfl) dX0_init_64 (fun H locs hw => ?_)
  have hw : kW γ A [(h, .inr (0, [.ref q_3, .ref q_4, .ref q_5, .ref q_6, .ref q_7, .ref q_8, .ref q_9, .ref q_10, .int 0, .int 0, .int 0, .int 0, .int 0, .int 0, .int 0, .int 0, .int 0, .int 0, .int 0])), (q_3, .inl (γ.2.1 1, 8, .inr (.inl (fun _ => 0)))), (q_4, .inl (γ.2.1 0, 8, .inl (fun _ => 0))), (q_5, .inl (γ.2.1 0, 8, .inl (fun _ => 0))), (q_6, .inl (γ.2.1 0, 8, .inl (fun _ => 0))), (q_7, .inl (γ.2.1 1, 5, .inr (.inl (fun _ => 0)))), (q_8, .inl (γ.2.1 0, 5, .inl (fun _ => 0))), (q_9, .inl (γ.2.1 0, 1000, .inl (fun _ => 0))), (q_10, .inl (γ.2.1 0, 32, .inl (fun _ => 0)))] s H locs := hw
  refine lv_aload_n hx hb dX0_init_67 rfl (lv_at hl 0 rfl) ?_
  refine k_V (wr := [(q_3, .inl (γ.2.1 1, 8, .inr (.inl (fun _ => 0)))), (q_4, .inl (γ.2.1 0, 8, .inl (fun _ => 0))), (q_5, .inl (γ.2.1 0, 8, .inl (fun _ => 0))), (q_6, .inl (γ.2.1 0, 8, .inl (fun _ => 0))), (q_7, .inl (γ.2.1 1, 5, .inr (.inl (fun _ => 0)))), (q_8, .inl (γ.2.1 0, 5, .inl (fun _ => 0))), (q_9, .inl (γ.2.1 0, 1000, .inl (fun _ => 0))), (q_10, .inl (γ.2.1 0, 32, .inl (fun _ => 0)))]) 0 gw_280 gw_281 gw_282 gw_13 gw_283 hd_X0_clear hC hw (c_X0_clear γ l h q_3 q_4 q_5 q_6 q_7 q_8 q_9 q_10 0 0 0 0 0 0 0 0 0 0 0) ⟨by decide, by decide⟩ ⟨by decide, by decide⟩ hl.1 rfl 0 rfl rfl rfl (Nat.le_of_ble_eq_true rfl) [0] [1, 2, 3, 4, 5, 6, 7, 8] rfl rfl rfl rfl (by decide) dX0_init_68 (fun r w1 H locs hq hw => ?_)
  obtain ⟨rfl, rfl⟩ := hq
  have hw : kW γ A [(q_3, .inl (γ.2.1 1, 8, .inr (.inl (fun _ => 0)))), (q_4, .inl (γ.2.1 0, 8, .inl (fun _ => 0))), (q_5, .inl (γ.2.1 0, 8, .inl (fun _ => 0))), (q_6, .inl (γ.2.1 0, 8, .inl (fun _ => 0))), (q_7, .inl (γ.2.1 1, 5, .inr (.inl (fun _ => 0)))), (q_8, .inl (γ.2.1 0, 5, .inl (fun _ => 0))), (q_9, .inl (γ.2.1 0, 1000, .inl (fun _ => 0))), (q_10, .inl (γ.2.1 0, 32, .inl (fun _ => 0))), (h, .inr (0, [.ref q_3, .ref q_4, .ref q_5, .ref q_6, .ref q_7, .ref q_8, .ref q_9, .ref q_10, .int 0, .int 0, .int 10, .int 10, .int 3, .int 0, .int 0, .int 0, .int 0, .int 0, .int 0]))] s H locs := hw
  refine W.eq (g2 := F0 m 71 ls []) rfl ?_
  exact k_vret hC hr hlocks hw [8, 0, 1, 2, 3, 4, 5, 6, 7] rfl rfl ⟨q_3, q_4, q_5, q_6, q_7, q_8, q_9, q_10, rfl, rfl⟩ (by decide) (by decide) dX0_init_71

set_option maxHeartbeats 4000000 in
set_option maxRecDepth 100000 in
theorem c_X7_clear (γ : kΓ) (l : Launch) (h : Nat) (h_l : Nat) (h_c : Nat) (h_g : Nat) (h_r : Nat) (h_k : Nat) (h_b : Nat) (fh_l : Nat → Int32) (fh_c : Nat → Int32) (fh_g : Nat → Int32) (fh_r : Nat → Int64) (fh_k : Nat → Int32) (fh_b : Nat → Int32) (y6 : Int32) (y7 : Int32) (y8 : Int32) : kM γ l yX7_clear cX7_clear 1 none ({ frames := 1, cells := 0, slots := 0, locals := 24 } : Room) [.ref h] [(h, .inr (7, [.ref h_l, .ref h_c, .ref h_g, .ref h_r, .ref h_k, .ref h_b, .int y6, .int y7, .int y8])), (h_l, .inl (γ.2.1 0, 5, .inl fh_l)), (h_c, .inl (γ.2.1 0, 5, .inl fh_c)), (h_g, .inl (γ.2.1 0, 5, .inl fh_g)), (h_r, .inl (γ.2.1 1, 5, .inr (.inl fh_r))), (h_k, .inl (γ.2.1 0, 40, .inl fh_k)), (h_b, .inl (γ.2.1 0, 8, .inl fh_b))] (fun r w1 => ∃ (gh_l : Nat → Int32), ∃ (gh_c : Nat → Int32), ∃ (gh_g : Nat → Int32), ∃ (gh_r : Nat → Int64), ∃ (gh_k : Nat → Int32), ∃ (gh_b : Nat → Int32), r = none ∧ w1 = [(h, .inr (7, [.ref h_l, .ref h_c, .ref h_g, .ref h_r, .ref h_k, .ref h_b, .int 0, .int 0, .int 0])), (h_l, .inl (γ.2.1 0, 5, .inl gh_l)), (h_c, .inl (γ.2.1 0, 5, .inl gh_c)), (h_g, .inl (γ.2.1 0, 5, .inl gh_g)), (h_r, .inl (γ.2.1 1, 5, .inr (.inl gh_r))), (h_k, .inl (γ.2.1 0, 40, .inl gh_k)), (h_b, .inl (γ.2.1 0, 8, .inl gh_b))] ∧ (∀ j, j < 5 → gh_l j = (-1)) ∧ (∀ j, j < 5 → gh_c j = 0) ∧ (∀ j, j < 5 → gh_g j = 0) ∧ (∀ j, j < 5 → gh_r j = 0) ∧ (∀ j, j < 40 → gh_k j = 0) ∧ (∀ j, j < 8 → gh_b j = 0)) := by
  refine k_ofW (by decide) (Nat.le_of_ble_eq_true rfl) ?_
  intro p9 e s m below meth c A ls hC hr hlocks hname hw hl
  have hx := hC.1
  have hb := hC.2.1
  have hl : lv_has ls 1 [(0, .ref h)] := hl
  refine lv_aload_n hx hb dX7_clear_0 rfl (lv_at hl 0 rfl) ?_
  refine fg_RX7_9 hC hw 0 rfl rfl dX7_clear_1 ?_
  refine lv_iconst (v := (-1)) hx hb dX7_clear_4 (by decide) ?_
  refine k_S (wr := [(h, .inr (7, [.ref h_l, .ref h_c, .ref h_g, .ref h_r, .ref h_k, .ref h_b, .int y6, .int y7, .int y8])), (h_c, .inl (γ.2.1 0, 5, .inl fh_c)), (h_g, .inl (γ.2.1 0, 5, .inl fh_g)), (h_r, .inl (γ.2.1 1, 5, .inr (.inl fh_r))), (h_k, .inl (γ.2.1 0, 40, .inl fh_k)), (h_b, .inl (γ.2.1 0, 8, .inl fh_b))]) 2 gw_88 gw_89 gw_7 gw_90 hd_J7_fill_53178 hC hw (c_fill γ l h_l 5 fh_l (-1) (by decide)) ⟨by decide, by decide⟩ ⟨by decide, by decide⟩ hl.1 rfl rfl (Nat.le_of_ble_eq_true rfl) [1] [0, 2, 3, 4, 5, 6] rfl rfl rfl rfl (by decide) dX7_clear_5 (fun r w1 H locs hq hw => ?_)
  obtain ⟨f9_11, rfl, rfl, g_12⟩ := hq
  have hw : kW γ A [(h, .inr (7, [.ref h_l, .ref h_c, .ref h_g, .ref h_r, .ref h_k, .ref h_b, .int y6, .int y7, .int y8])), (h_c, .inl (γ.2.1 0, 5, .inl fh_c)), (h_g, .inl (γ.2.1 0, 5, .inl fh_g)), (h_r, .inl (γ.2.1 1, 5, .inr (.inl fh_r))), (h_k, .inl (γ.2.1 0, 40, .inl fh_k)), (h_b, .inl (γ.2.1 0, 8, .inl fh_b)), (h_l, .inl (γ.2.1 0, 5, .inl f9_11))] s H locs := hw
  refine W.eq (g2 := F0 m 8 ls []) rfl ?_
  refine lv_aload_n hx hb dX7_clear_8 rfl (lv_at hl 0 rfl) ?_
  refine fg_RX7_15 hC hw 0 rfl rfl dX7_clear_9 ?_
  refine lv_iconst (v := 0) hx hb dX7_clear_12 (by decide) ?_
  refine k_S (wr := [(h, .inr (7, [.ref h_l, .ref h_c, .ref h_g, .ref h_r, .ref h_k, .ref h_b, .int y6, .int y7, .int y8])), (h_g, .inl (γ.2.1 0, 5, .inl fh_g)), (h_r, .inl (γ.2.1 1, 5, .inr (.inl fh_r))), (h_k, .inl (γ.2.1 0, 40, .inl fh_k)), (h_b, .inl (γ.2.1 0, 8, .inl fh_b)), (h_l, .inl (γ.2.1 0, 5, .inl f9_11))]) 2 gw_88 gw_89 gw_7 gw_90 hd_J7_fill_53178 hC hw (c_fill γ l h_c 5 fh_c 0 (by decide)) ⟨by decide, by decide⟩ ⟨by decide, by decide⟩ hl.1 rfl rfl (Nat.le_of_ble_eq_true rfl) [1] [0, 2, 3, 4, 5, 6] rfl rfl rfl rfl (by decide) dX7_clear_13 (fun r w1 H locs hq hw => ?_)
  obtain ⟨f9_13, rfl, rfl, g_14⟩ := hq
  have hw : kW γ A [(h, .inr (7, [.ref h_l, .ref h_c, .ref h_g, .ref h_r, .ref h_k, .ref h_b, .int y6, .int y7, .int y8])), (h_g, .inl (γ.2.1 0, 5, .inl fh_g)), (h_r, .inl (γ.2.1 1, 5, .inr (.inl fh_r))), (h_k, .inl (γ.2.1 0, 40, .inl fh_k)), (h_b, .inl (γ.2.1 0, 8, .inl fh_b)), (h_l, .inl (γ.2.1 0, 5, .inl f9_11)), (h_c, .inl (γ.2.1 0, 5, .inl f9_13))] s H locs := hw
  refine W.eq (g2 := F0 m 16 ls []) rfl ?_
  refine lv_aload_n hx hb dX7_clear_16 rfl (lv_at hl 0 rfl) ?_
  refine fg_RX7_18 hC hw 0 rfl rfl dX7_clear_17 ?_
  refine lv_iconst (v := 0) hx hb dX7_clear_20 (by decide) ?_
  refine k_S (wr := [(h, .inr (7, [.ref h_l, .ref h_c, .ref h_g, .ref h_r, .ref h_k, .ref h_b, .int y6, .int y7, .int y8])), (h_r, .inl (γ.2.1 1, 5, .inr (.inl fh_r))), (h_k, .inl (γ.2.1 0, 40, .inl fh_k)), (h_b, .inl (γ.2.1 0, 8, .inl fh_b)), (h_l, .inl (γ.2.1 0, 5, .inl f9_11)), (h_c, .inl (γ.2.1 0, 5, .inl f9_13))]) 2 gw_88 gw_89 gw_7 gw_90 hd_J7_fill_53178 hC hw (c_fill γ l h_g 5 fh_g 0 (by decide)) ⟨by decide, by decide⟩ ⟨by decide, by decide⟩ hl.1 rfl rfl (Nat.le_of_ble_eq_true rfl) [1] [0, 2, 3, 4, 5, 6] rfl rfl rfl rfl (by decide) dX7_clear_21 (fun r w1 H locs hq hw => ?_)
  obtain ⟨f9_15, rfl, rfl, g_16⟩ := hq
  have hw : kW γ A [(h, .inr (7, [.ref h_l, .ref h_c, .ref h_g, .ref h_r, .ref h_k, .ref h_b, .int y6, .int y7, .int y8])), (h_r, .inl (γ.2.1 1, 5, .inr (.inl fh_r))), (h_k, .inl (γ.2.1 0, 40, .inl fh_k)), (h_b, .inl (γ.2.1 0, 8, .inl fh_b)), (h_l, .inl (γ.2.1 0, 5, .inl f9_11)), (h_c, .inl (γ.2.1 0, 5, .inl f9_13)), (h_g, .inl (γ.2.1 0, 5, .inl f9_15))] s H locs := hw
  refine W.eq (g2 := F0 m 24 ls []) rfl ?_
  refine lv_aload_n hx hb dX7_clear_24 rfl (lv_at hl 0 rfl) ?_
  refine fg_RX7_21 hC hw 0 rfl rfl dX7_clear_25 ?_
  refine lv_lconst (v := 0) hx hb dX7_clear_28 (by decide) ?_
  refine k_S (wr := [(h, .inr (7, [.ref h_l, .ref h_c, .ref h_g, .ref h_r, .ref h_k, .ref h_b, .int y6, .int y7, .int y8])), (h_k, .inl (γ.2.1 0, 40, .inl fh_k)), (h_b, .inl (γ.2.1 0, 8, .inl fh_b)), (h_l, .inl (γ.2.1 0, 5, .inl f9_11)), (h_c, .inl (γ.2.1 0, 5, .inl f9_13)), (h_g, .inl (γ.2.1 0, 5, .inl f9_15))]) 2 gw_91 gw_92 gw_7 gw_93 hd_J7_fill_d0a16 hC hw (c_filll γ l h_r 5 fh_r 0 (by decide)) ⟨by decide, by decide⟩ ⟨by decide, by decide⟩ hl.1 rfl rfl (Nat.le_of_ble_eq_true rfl) [1] [0, 2, 3, 4, 5, 6] rfl rfl rfl rfl (by decide) dX7_clear_29 (fun r w1 H locs hq hw => ?_)
  obtain ⟨f9_17, rfl, rfl, g_18⟩ := hq
  have hw : kW γ A [(h, .inr (7, [.ref h_l, .ref h_c, .ref h_g, .ref h_r, .ref h_k, .ref h_b, .int y6, .int y7, .int y8])), (h_k, .inl (γ.2.1 0, 40, .inl fh_k)), (h_b, .inl (γ.2.1 0, 8, .inl fh_b)), (h_l, .inl (γ.2.1 0, 5, .inl f9_11)), (h_c, .inl (γ.2.1 0, 5, .inl f9_13)), (h_g, .inl (γ.2.1 0, 5, .inl f9_15)), (h_r, .inl (γ.2.1 1, 5, .inr (.inl f9_17)))] s H locs := hw
  refine W.eq (g2 := F0 m 32 ls []) rfl ?_
  refine lv_aload_n hx hb dX7_clear_32 rfl (lv_at hl 0 rfl) ?_
  refine fg_RX7_25 hC hw 0 rfl rfl dX7_clear_33 ?_
  refine lv_iconst (v := 0) hx hb dX7_clear_36 (by decide) ?_
  refine k_S (wr := [(h, .inr (7, [.ref h_l, .ref h_c, .ref h_g, .ref h_r, .ref h_k, .ref h_b, .int y6, .int y7, .int y8])), (h_b, .inl (γ.2.1 0, 8, .inl fh_b)), (h_l, .inl (γ.2.1 0, 5, .inl f9_11)), (h_c, .inl (γ.2.1 0, 5, .inl f9_13)), (h_g, .inl (γ.2.1 0, 5, .inl f9_15)), (h_r, .inl (γ.2.1 1, 5, .inr (.inl f9_17)))]) 2 gw_88 gw_89 gw_7 gw_90 hd_J7_fill_53178 hC hw (c_fill γ l h_k 40 fh_k 0 (by decide)) ⟨by decide, by decide⟩ ⟨by decide, by decide⟩ hl.1 rfl rfl (Nat.le_of_ble_eq_true rfl) [1] [0, 2, 3, 4, 5, 6] rfl rfl rfl rfl (by decide) dX7_clear_37 (fun r w1 H locs hq hw => ?_)
  obtain ⟨f9_19, rfl, rfl, g_20⟩ := hq
  have hw : kW γ A [(h, .inr (7, [.ref h_l, .ref h_c, .ref h_g, .ref h_r, .ref h_k, .ref h_b, .int y6, .int y7, .int y8])), (h_b, .inl (γ.2.1 0, 8, .inl fh_b)), (h_l, .inl (γ.2.1 0, 5, .inl f9_11)), (h_c, .inl (γ.2.1 0, 5, .inl f9_13)), (h_g, .inl (γ.2.1 0, 5, .inl f9_15)), (h_r, .inl (γ.2.1 1, 5, .inr (.inl f9_17))), (h_k, .inl (γ.2.1 0, 40, .inl f9_19))] s H locs := hw
  refine W.eq (g2 := F0 m 40 ls []) rfl ?_
  refine lv_aload_n hx hb dX7_clear_40 rfl (lv_at hl 0 rfl) ?_
  refine fg_RX7_28 hC hw 0 rfl rfl dX7_clear_41 ?_
  refine lv_iconst (v := 0) hx hb dX7_clear_44 (by decide) ?_
  refine k_S (wr := [(h, .inr (7, [.ref h_l, .ref h_c, .ref h_g, .ref h_r, .ref h_k, .ref h_b, .int y6, .int y7, .int y8])), (h_l, .inl (γ.2.1 0, 5, .inl f9_11)), (h_c, .inl (γ.2.1 0, 5, .inl f9_13)), (h_g, .inl (γ.2.1 0, 5, .inl f9_15)), (h_r, .inl (γ.2.1 1, 5, .inr (.inl f9_17))), (h_k, .inl (γ.2.1 0, 40, .inl f9_19))]) 2 gw_88 gw_89 gw_7 gw_90 hd_J7_fill_53178 hC hw (c_fill γ l h_b 8 fh_b 0 (by decide)) ⟨by decide, by decide⟩ ⟨by decide, by decide⟩ hl.1 rfl rfl (Nat.le_of_ble_eq_true rfl) [1] [0, 2, 3, 4, 5, 6] rfl rfl rfl rfl (by decide) dX7_clear_45 (fun r w1 H locs hq hw => ?_)
  obtain ⟨f9_21, rfl, rfl, g_22⟩ := hq
  have hw : kW γ A [(h, .inr (7, [.ref h_l, .ref h_c, .ref h_g, .ref h_r, .ref h_k, .ref h_b, .int y6, .int y7, .int y8])), (h_l, .inl (γ.2.1 0, 5, .inl f9_11)), (h_c, .inl (γ.2.1 0, 5, .inl f9_13)), (h_g, .inl (γ.2.1 0, 5, .inl f9_15)), (h_r, .inl (γ.2.1 1, 5, .inr (.inl f9_17))), (h_k, .inl (γ.2.1 0, 40, .inl f9_19)), (h_b, .inl (γ.2.1 0, 8, .inl f9_21))] s H locs := hw
  refine W.eq (g2 := F0 m 48 ls []) rfl ?_
  refine lv_aload_n hx hb dX7_clear_48 rfl (lv_at hl 0 rfl) ?_
  refine lv_iconst (v := 0) hx hb dX7_clear_49 (by decide) ?_
  refine fs_RX7_43 hC hw 0 rfl rfl rfl (Nat.le_of_ble_eq_true rfl) dX7_clear_50 (fun H locs hw => ?_)
  have hw : kW γ A [(h, .inr (7, [.ref h_l, .ref h_c, .ref h_g, .ref h_r, .ref h_k, .ref h_b, .int 0, .int y7, .int y8])), (h_l, .inl (γ.2.1 0, 5, .inl f9_11)), (h_c, .inl (γ.2.1 0, 5, .inl f9_13)), (h_g, .inl (γ.2.1 0, 5, .inl f9_15)), (h_r, .inl (γ.2.1 1, 5, .inr (.inl f9_17))), (h_k, .inl (γ.2.1 0, 40, .inl f9_19)), (h_b, .inl (γ.2.1 0, 8, .inl f9_21))] s H locs := hw
  refine lv_aload_n hx hb dX7_clear_53 rfl (lv_at hl 0 rfl) ?_
  refine lv_iconst (v := 0) hx hb dX7_clear_54 (by decide) ?_
  refine fs_RX7_47 hC hw 0 rfl rfl rfl (Nat.le_of_ble_eq_true rfl) dX7_clear_55 (fun H locs hw => ?_)
  have hw : kW γ A [(h, .inr (7, [.ref h_l, .ref h_c, .ref h_g, .ref h_r, .ref h_k, .ref h_b, .int 0, .int 0, .int y8])), (h_l, .inl (γ.2.1 0, 5, .inl f9_11)), (h_c, .inl (γ.2.1 0, 5, .inl f9_13)), (h_g, .inl (γ.2.1 0, 5, .inl f9_15)), (h_r, .inl (γ.2.1 1, 5, .inr (.inl f9_17))), (h_k, .inl (γ.2.1 0, 40, .inl f9_19)), (h_b, .inl (γ.2.1 0, 8, .inl f9_21))] s H locs := hw
  refine lv_aload_n hx hb dX7_clear_58 rfl (lv_at hl 0 rfl) ?_
  refine lv_iconst (v := 0) hx hb dX7_clear_59 (by decide) ?_
  refine fs_RX7_50 hC hw 0 rfl rfl rfl (Nat.le_of_ble_eq_true rfl) dX7_clear_60 (fun H locs hw => ?_)
  have hw : kW γ A [(h, .inr (7, [.ref h_l, .ref h_c, .ref h_g, .ref h_r, .ref h_k, .ref h_b, .int 0, .int 0, .int 0])), (h_l, .inl (γ.2.1 0, 5, .inl f9_11)), (h_c, .inl (γ.2.1 0, 5, .inl f9_13)), (h_g, .inl (γ.2.1 0, 5, .inl f9_15)), (h_r, .inl (γ.2.1 1, 5, .inr (.inl f9_17))), (h_k, .inl (γ.2.1 0, 40, .inl f9_19)), (h_b, .inl (γ.2.1 0, 8, .inl f9_21))] s H locs := hw
  exact k_vret hC hr hlocks hw [0, 1, 2, 3, 4, 5, 6] rfl rfl ⟨f9_11, f9_13, f9_15, f9_17, f9_19, f9_21, rfl, rfl, g_12, g_14, g_16, g_18, g_20, g_22⟩ (by decide) (by decide) dX7_clear_63

set_option maxHeartbeats 4000000 in
set_option maxRecDepth 100000 in
theorem c_X7_init (γ : kΓ) (l : Launch) (h : Nat) : kM γ l yX7_init cX7_init 1 none ({ frames := 2, cells := 6, slots := 68, locals := 44 } : Room) [.ref h] [(h, .inr (7, [.null, .null, .null, .null, .null, .null, .int 0, .int 0, .int 0]))] (fun r w1 => ∃ (h_l : Nat), ∃ (h_c : Nat), ∃ (h_g : Nat), ∃ (h_r : Nat), ∃ (h_k : Nat), ∃ (h_b : Nat), ∃ (gh_l : Nat → Int32), ∃ (gh_c : Nat → Int32), ∃ (gh_g : Nat → Int32), ∃ (gh_r : Nat → Int64), ∃ (gh_k : Nat → Int32), ∃ (gh_b : Nat → Int32), r = none ∧ w1 = [(h, .inr (7, [.ref h_l, .ref h_c, .ref h_g, .ref h_r, .ref h_k, .ref h_b, .int 0, .int 0, .int 0])), (h_l, .inl (γ.2.1 0, 5, .inl gh_l)), (h_c, .inl (γ.2.1 0, 5, .inl gh_c)), (h_g, .inl (γ.2.1 0, 5, .inl gh_g)), (h_r, .inl (γ.2.1 1, 5, .inr (.inl gh_r))), (h_k, .inl (γ.2.1 0, 40, .inl gh_k)), (h_b, .inl (γ.2.1 0, 8, .inl gh_b))] ∧ (∀ j, j < 5 → gh_l j = (-1)) ∧ (∀ j, j < 5 → gh_c j = 0) ∧ (∀ j, j < 5 → gh_g j = 0) ∧ (∀ j, j < 5 → gh_r j = 0) ∧ (∀ j, j < 40 → gh_k j = 0) ∧ (∀ j, j < 8 → gh_b j = 0)) := by
  refine k_ofW (by decide) (Nat.le_of_ble_eq_true rfl) ?_
  intro p9 e s m below meth c A ls hC hr hlocks hname hw hl
  have hx := hC.1
  have hb := hC.2.1
  have hin : meth.name = "<init>" := hname
  have hl : lv_has ls 1 [(0, .ref h)] := hl
  refine lv_aload_n hx hb dX7_init_0 rfl (lv_at hl 0 rfl) ?_
  refine k_objInit hC gw_83 hl.1 (by decide) (Nat.le_of_ble_eq_true rfl) dX7_init_1 ?_
  refine W.eq (g2 := F0 m 4 ls []) rfl ?_
  refine lv_aload_n hx hb dX7_init_4 rfl (lv_at hl 0 rfl) ?_
  refine lv_iconst (v := 5) hx hb dX7_init_5 (by decide) ?_
  refine k_newa (atype := .int) (N' := 5) (a0 := (5, .inl (fun _ => 0))) hC hw rfl gw_132 0 rfl (fun _ h => by cases h) (fun _ => rfl) (by decide) (by decide) (by decide) (by decide) (by decide) dX7_init_6 (fun q_23 H hw => ?_)
  have hw : kW γ A [(h, .inr (7, [.null, .null, .null, .null, .null, .null, .int 0, .int 0, .int 0])), (q_23, .inl (γ.2.1 0, 5, .inl (fun _ => 0)))] s H [] := hw
  refine W.widen (k := 1) (n := 5) (by decide) (by decide) ?_
  refine fs_RX7_9 hC hw hin 0 rfl rfl rfl (Nat.le_of_ble_eq_true rfl) dX7_init_8 (fun H locs hw => ?_)
  have hw : kW γ A [(h, .inr (7, [.ref q_23, .null, .null, .null, .null, .null, .int 0, .int 0, .int 0])), (q_23, .inl (γ.2.1 0, 5, .inl (fun _ => 0)))] s H locs := hw
  refine lv_aload_n hx hb dX7_init_11 rfl (lv_at hl 0 rfl) ?_
  refine lv_iconst (v := 5) hx hb dX7_init_12 (by decide) ?_
  refine k_newa (atype := .int) (N' := 5) (a0 := (5, .inl (fun _ => 0))) hC hw rfl gw_132 0 rfl (fun _ h => by cases h) (fun _ => rfl) (by decide) (by decide) (by decide) (by decide) (by decide) dX7_init_13 (fun q_24 H hw => ?_)
  have hw : kW γ A [(h, .inr (7, [.ref q_23, .null, .null, .null, .null, .null, .int 0, .int 0, .int 0])), (q_23, .inl (γ.2.1 0, 5, .inl (fun _ => 0))), (q_24, .inl (γ.2.1 0, 5, .inl (fun _ => 0)))] s H locs := hw
  refine W.widen (k := 2) (n := 10) (by decide) (by decide) ?_
  refine fs_RX7_15 hC hw hin 0 rfl rfl rfl (Nat.le_of_ble_eq_true rfl) dX7_init_15 (fun H locs hw => ?_)
  have hw : kW γ A [(h, .inr (7, [.ref q_23, .ref q_24, .null, .null, .null, .null, .int 0, .int 0, .int 0])), (q_23, .inl (γ.2.1 0, 5, .inl (fun _ => 0))), (q_24, .inl (γ.2.1 0, 5, .inl (fun _ => 0)))] s H locs := hw
  refine lv_aload_n hx hb dX7_init_18 rfl (lv_at hl 0 rfl) ?_
  refine lv_iconst (v := 5) hx hb dX7_init_19 (by decide) ?_
  refine k_newa (atype := .int) (N' := 5) (a0 := (5, .inl (fun _ => 0))) hC hw rfl gw_132 0 rfl (fun _ h => by cases h) (fun _ => rfl) (by decide) (by decide) (by decide) (by decide) (by decide) dX7_init_20 (fun q_25 H hw => ?_)
  have hw : kW γ A [(h, .inr (7, [.ref q_23, .ref q_24, .null, .null, .null, .null, .int 0, .int 0, .int 0])), (q_23, .inl (γ.2.1 0, 5, .inl (fun _ => 0))), (q_24, .inl (γ.2.1 0, 5, .inl (fun _ => 0))), (q_25, .inl (γ.2.1 0, 5, .inl (fun _ => 0)))] s H locs := hw
  refine W.widen (k := 3) (n := 15) (by decide) (by decide) ?_
  refine fs_RX7_18 hC hw hin 0 rfl rfl rfl (Nat.le_of_ble_eq_true rfl) dX7_init_22 (fun H locs hw => ?_)
  have hw : kW γ A [(h, .inr (7, [.ref q_23, .ref q_24, .ref q_25, .null, .null, .null, .int 0, .int 0, .int 0])), (q_23, .inl (γ.2.1 0, 5, .inl (fun _ => 0))), (q_24, .inl (γ.2.1 0, 5, .inl (fun _ => 0))), (q_25, .inl (γ.2.1 0, 5, .inl (fun _ => 0)))] s H locs := hw
  refine lv_aload_n hx hb dX7_init_25 rfl (lv_at hl 0 rfl) ?_
  refine lv_iconst (v := 5) hx hb dX7_init_26 (by decide) ?_
  refine k_newa (atype := .long) (N' := 5) (a0 := (5, .inr (.inl (fun _ => 0)))) hC hw rfl gw_133 1 rfl (fun _ h => by cases h) (fun _ => rfl) (by decide) (by decide) (by decide) (by decide) (by decide) dX7_init_27 (fun q_26 H hw => ?_)
  have hw : kW γ A [(h, .inr (7, [.ref q_23, .ref q_24, .ref q_25, .null, .null, .null, .int 0, .int 0, .int 0])), (q_23, .inl (γ.2.1 0, 5, .inl (fun _ => 0))), (q_24, .inl (γ.2.1 0, 5, .inl (fun _ => 0))), (q_25, .inl (γ.2.1 0, 5, .inl (fun _ => 0))), (q_26, .inl (γ.2.1 1, 5, .inr (.inl (fun _ => 0))))] s H locs := hw
  refine W.widen (k := 4) (n := 20) (by decide) (by decide) ?_
  refine fs_RX7_21 hC hw hin 0 rfl rfl rfl (Nat.le_of_ble_eq_true rfl) dX7_init_29 (fun H locs hw => ?_)
  have hw : kW γ A [(h, .inr (7, [.ref q_23, .ref q_24, .ref q_25, .ref q_26, .null, .null, .int 0, .int 0, .int 0])), (q_23, .inl (γ.2.1 0, 5, .inl (fun _ => 0))), (q_24, .inl (γ.2.1 0, 5, .inl (fun _ => 0))), (q_25, .inl (γ.2.1 0, 5, .inl (fun _ => 0))), (q_26, .inl (γ.2.1 1, 5, .inr (.inl (fun _ => 0))))] s H locs := hw
  refine lv_aload_n hx hb dX7_init_32 rfl (lv_at hl 0 rfl) ?_
  refine lv_bipush (v := 40) hx hb dX7_init_33 (by decide) ?_
  refine k_newa (atype := .int) (N' := 40) (a0 := (40, .inl (fun _ => 0))) hC hw rfl gw_132 0 rfl (fun _ h => by cases h) (fun _ => rfl) (by decide) (by decide) (by decide) (by decide) (by decide) dX7_init_35 (fun q_27 H hw => ?_)
  have hw : kW γ A [(h, .inr (7, [.ref q_23, .ref q_24, .ref q_25, .ref q_26, .null, .null, .int 0, .int 0, .int 0])), (q_23, .inl (γ.2.1 0, 5, .inl (fun _ => 0))), (q_24, .inl (γ.2.1 0, 5, .inl (fun _ => 0))), (q_25, .inl (γ.2.1 0, 5, .inl (fun _ => 0))), (q_26, .inl (γ.2.1 1, 5, .inr (.inl (fun _ => 0)))), (q_27, .inl (γ.2.1 0, 40, .inl (fun _ => 0)))] s H locs := hw
  refine W.widen (k := 5) (n := 60) (by decide) (by decide) ?_
  refine fs_RX7_25 hC hw hin 0 rfl rfl rfl (Nat.le_of_ble_eq_true rfl) dX7_init_37 (fun H locs hw => ?_)
  have hw : kW γ A [(h, .inr (7, [.ref q_23, .ref q_24, .ref q_25, .ref q_26, .ref q_27, .null, .int 0, .int 0, .int 0])), (q_23, .inl (γ.2.1 0, 5, .inl (fun _ => 0))), (q_24, .inl (γ.2.1 0, 5, .inl (fun _ => 0))), (q_25, .inl (γ.2.1 0, 5, .inl (fun _ => 0))), (q_26, .inl (γ.2.1 1, 5, .inr (.inl (fun _ => 0)))), (q_27, .inl (γ.2.1 0, 40, .inl (fun _ => 0)))] s H locs := hw
  refine lv_aload_n hx hb dX7_init_40 rfl (lv_at hl 0 rfl) ?_
  refine lv_bipush (v := 8) hx hb dX7_init_41 (by decide) ?_
  refine k_newa (atype := .int) (N' := 8) (a0 := (8, .inl (fun _ => 0))) hC hw rfl gw_132 0 rfl (fun _ h => by cases h) (fun _ => rfl) (by decide) (by decide) (by decide) (by decide) (by decide) dX7_init_43 (fun q_28 H hw => ?_)
  have hw : kW γ A [(h, .inr (7, [.ref q_23, .ref q_24, .ref q_25, .ref q_26, .ref q_27, .null, .int 0, .int 0, .int 0])), (q_23, .inl (γ.2.1 0, 5, .inl (fun _ => 0))), (q_24, .inl (γ.2.1 0, 5, .inl (fun _ => 0))), (q_25, .inl (γ.2.1 0, 5, .inl (fun _ => 0))), (q_26, .inl (γ.2.1 1, 5, .inr (.inl (fun _ => 0)))), (q_27, .inl (γ.2.1 0, 40, .inl (fun _ => 0))), (q_28, .inl (γ.2.1 0, 8, .inl (fun _ => 0)))] s H locs := hw
  refine W.widen (k := 6) (n := 68) (by decide) (by decide) ?_
  refine fs_RX7_28 hC hw hin 0 rfl rfl rfl (Nat.le_of_ble_eq_true rfl) dX7_init_45 (fun H locs hw => ?_)
  have hw : kW γ A [(h, .inr (7, [.ref q_23, .ref q_24, .ref q_25, .ref q_26, .ref q_27, .ref q_28, .int 0, .int 0, .int 0])), (q_23, .inl (γ.2.1 0, 5, .inl (fun _ => 0))), (q_24, .inl (γ.2.1 0, 5, .inl (fun _ => 0))), (q_25, .inl (γ.2.1 0, 5, .inl (fun _ => 0))), (q_26, .inl (γ.2.1 1, 5, .inr (.inl (fun _ => 0)))), (q_27, .inl (γ.2.1 0, 40, .inl (fun _ => 0))), (q_28, .inl (γ.2.1 0, 8, .inl (fun _ => 0)))] s H locs := hw
  refine lv_aload_n hx hb dX7_init_48 rfl (lv_at hl 0 rfl) ?_
  refine k_V (wr := []) 0 gw_84 gw_85 gw_86 gw_6 gw_87 hd_X7_clear hC hw (c_X7_clear γ l h q_23 q_24 q_25 q_26 q_27 q_28 (fun _ => 0) (fun _ => 0) (fun _ => 0) (fun _ => 0) (fun _ => 0) (fun _ => 0) 0 0 0) ⟨by decide, by decide⟩ ⟨by decide, by decide⟩ hl.1 rfl 0 rfl rfl rfl (Nat.le_of_ble_eq_true rfl) [0, 1, 2, 3, 4, 5, 6] [] rfl rfl rfl rfl (by decide) dX7_init_49 (fun r w1 H locs hq hw => ?_)
  obtain ⟨gh_l_29, gh_c_30, gh_g_31, gh_r_32, gh_k_33, gh_b_34, rfl, rfl, g_35, g_36, g_37, g_38, g_39, g_40⟩ := hq
  have hw : kW γ A [(h, .inr (7, [.ref q_23, .ref q_24, .ref q_25, .ref q_26, .ref q_27, .ref q_28, .int 0, .int 0, .int 0])), (q_23, .inl (γ.2.1 0, 5, .inl gh_l_29)), (q_24, .inl (γ.2.1 0, 5, .inl gh_c_30)), (q_25, .inl (γ.2.1 0, 5, .inl gh_g_31)), (q_26, .inl (γ.2.1 1, 5, .inr (.inl gh_r_32))), (q_27, .inl (γ.2.1 0, 40, .inl gh_k_33)), (q_28, .inl (γ.2.1 0, 8, .inl gh_b_34))] s H locs := hw
  refine W.eq (g2 := F0 m 52 ls []) rfl ?_
  exact k_vret hC hr hlocks hw [0, 1, 2, 3, 4, 5, 6] rfl rfl ⟨q_23, q_24, q_25, q_26, q_27, q_28, gh_l_29, gh_c_30, gh_g_31, gh_r_32, gh_k_33, gh_b_34, rfl, rfl, g_35, g_36, g_37, g_38, g_39, g_40⟩ (by decide) (by decide) dX7_init_52


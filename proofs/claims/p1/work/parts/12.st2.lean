theorem dX7_copy_0 : decode cX7_copy 0 = .ok (.aload_n 1, 1) := by decide +kernel
theorem dX7_copy_1 : decode cX7_copy 1 = .ok (.getfield 9, 3) := by decide +kernel
theorem dX7_copy_4 : decode cX7_copy 4 = .ok (.iconst 0, 1) := by decide +kernel
theorem dX7_copy_5 : decode cX7_copy 5 = .ok (.aload_n 0, 1) := by decide +kernel
theorem dX7_copy_6 : decode cX7_copy 6 = .ok (.getfield 9, 3) := by decide +kernel
theorem dX7_copy_9 : decode cX7_copy 9 = .ok (.iconst 0, 1) := by decide +kernel
theorem dX7_copy_10 : decode cX7_copy 10 = .ok (.iconst 5, 1) := by decide +kernel
theorem dX7_copy_11 : decode cX7_copy 11 = .ok (.invokestatic 53, 3) := by decide +kernel
theorem dX7_copy_14 : decode cX7_copy 14 = .ok (.aload_n 1, 1) := by decide +kernel
theorem dX7_copy_15 : decode cX7_copy 15 = .ok (.getfield 15, 3) := by decide +kernel
theorem dX7_copy_18 : decode cX7_copy 18 = .ok (.iconst 0, 1) := by decide +kernel
theorem dX7_copy_19 : decode cX7_copy 19 = .ok (.aload_n 0, 1) := by decide +kernel
theorem dX7_copy_20 : decode cX7_copy 20 = .ok (.getfield 15, 3) := by decide +kernel
theorem dX7_copy_23 : decode cX7_copy 23 = .ok (.iconst 0, 1) := by decide +kernel
theorem dX7_copy_24 : decode cX7_copy 24 = .ok (.iconst 5, 1) := by decide +kernel
theorem dX7_copy_25 : decode cX7_copy 25 = .ok (.invokestatic 53, 3) := by decide +kernel
theorem dX7_copy_28 : decode cX7_copy 28 = .ok (.aload_n 1, 1) := by decide +kernel
theorem dX7_copy_29 : decode cX7_copy 29 = .ok (.getfield 18, 3) := by decide +kernel
theorem dX7_copy_32 : decode cX7_copy 32 = .ok (.iconst 0, 1) := by decide +kernel
theorem dX7_copy_33 : decode cX7_copy 33 = .ok (.aload_n 0, 1) := by decide +kernel
theorem dX7_copy_34 : decode cX7_copy 34 = .ok (.getfield 18, 3) := by decide +kernel
theorem dX7_copy_37 : decode cX7_copy 37 = .ok (.iconst 0, 1) := by decide +kernel
theorem dX7_copy_38 : decode cX7_copy 38 = .ok (.iconst 5, 1) := by decide +kernel
theorem dX7_copy_39 : decode cX7_copy 39 = .ok (.invokestatic 53, 3) := by decide +kernel
theorem dX7_copy_42 : decode cX7_copy 42 = .ok (.aload_n 1, 1) := by decide +kernel
theorem dX7_copy_43 : decode cX7_copy 43 = .ok (.getfield 21, 3) := by decide +kernel
theorem dX7_copy_46 : decode cX7_copy 46 = .ok (.iconst 0, 1) := by decide +kernel
theorem dX7_copy_47 : decode cX7_copy 47 = .ok (.aload_n 0, 1) := by decide +kernel
theorem dX7_copy_48 : decode cX7_copy 48 = .ok (.getfield 21, 3) := by decide +kernel
theorem dX7_copy_51 : decode cX7_copy 51 = .ok (.iconst 0, 1) := by decide +kernel
theorem dX7_copy_52 : decode cX7_copy 52 = .ok (.iconst 5, 1) := by decide +kernel
theorem dX7_copy_53 : decode cX7_copy 53 = .ok (.invokestatic 53, 3) := by decide +kernel
theorem dX7_copy_56 : decode cX7_copy 56 = .ok (.aload_n 1, 1) := by decide +kernel
theorem dX7_copy_57 : decode cX7_copy 57 = .ok (.getfield 25, 3) := by decide +kernel
theorem dX7_copy_60 : decode cX7_copy 60 = .ok (.iconst 0, 1) := by decide +kernel
theorem dX7_copy_61 : decode cX7_copy 61 = .ok (.aload_n 0, 1) := by decide +kernel
theorem dX7_copy_62 : decode cX7_copy 62 = .ok (.getfield 25, 3) := by decide +kernel
theorem dX7_copy_65 : decode cX7_copy 65 = .ok (.iconst 0, 1) := by decide +kernel
theorem dX7_copy_66 : decode cX7_copy 66 = .ok (.bipush 40, 2) := by decide +kernel
theorem dX7_copy_68 : decode cX7_copy 68 = .ok (.invokestatic 53, 3) := by decide +kernel
theorem dX7_copy_71 : decode cX7_copy 71 = .ok (.aload_n 1, 1) := by decide +kernel
theorem dX7_copy_72 : decode cX7_copy 72 = .ok (.getfield 28, 3) := by decide +kernel
theorem dX7_copy_75 : decode cX7_copy 75 = .ok (.iconst 0, 1) := by decide +kernel
theorem dX7_copy_76 : decode cX7_copy 76 = .ok (.aload_n 0, 1) := by decide +kernel
theorem dX7_copy_77 : decode cX7_copy 77 = .ok (.getfield 28, 3) := by decide +kernel
theorem dX7_copy_80 : decode cX7_copy 80 = .ok (.iconst 0, 1) := by decide +kernel
theorem dX7_copy_81 : decode cX7_copy 81 = .ok (.bipush 8, 2) := by decide +kernel
theorem dX7_copy_83 : decode cX7_copy 83 = .ok (.invokestatic 53, 3) := by decide +kernel
theorem dX7_copy_86 : decode cX7_copy 86 = .ok (.aload_n 0, 1) := by decide +kernel
theorem dX7_copy_87 : decode cX7_copy 87 = .ok (.aload_n 1, 1) := by decide +kernel
theorem dX7_copy_88 : decode cX7_copy 88 = .ok (.getfield 43, 3) := by decide +kernel
theorem dX7_copy_91 : decode cX7_copy 91 = .ok (.putfield 43, 3) := by decide +kernel
theorem dX7_copy_94 : decode cX7_copy 94 = .ok (.aload_n 0, 1) := by decide +kernel
theorem dX7_copy_95 : decode cX7_copy 95 = .ok (.aload_n 1, 1) := by decide +kernel
theorem dX7_copy_96 : decode cX7_copy 96 = .ok (.getfield 47, 3) := by decide +kernel
theorem dX7_copy_99 : decode cX7_copy 99 = .ok (.putfield 47, 3) := by decide +kernel
theorem dX7_copy_102 : decode cX7_copy 102 = .ok (.aload_n 0, 1) := by decide +kernel
theorem dX7_copy_103 : decode cX7_copy 103 = .ok (.aload_n 1, 1) := by decide +kernel
theorem dX7_copy_104 : decode cX7_copy 104 = .ok (.getfield 50, 3) := by decide +kernel
theorem dX7_copy_107 : decode cX7_copy 107 = .ok (.putfield 50, 3) := by decide +kernel
theorem dX7_copy_110 : decode cX7_copy 110 = .ok (.return_, 1) := by decide +kernel
theorem dX7_gainedByAll_0 : decode cX7_gainedByAll 0 = .ok (.iconst 0, 1) := by decide +kernel
theorem dX7_gainedByAll_1 : decode cX7_gainedByAll 1 = .ok (.istore_n 1, 1) := by decide +kernel
theorem dX7_gainedByAll_2 : decode cX7_gainedByAll 2 = .ok (.iconst 0, 1) := by decide +kernel
theorem dX7_gainedByAll_3 : decode cX7_gainedByAll 3 = .ok (.istore_n 2, 1) := by decide +kernel
theorem dX7_gainedByAll_4 : decode cX7_gainedByAll 4 = .ok (.iload_n 2, 1) := by decide +kernel
theorem dX7_gainedByAll_5 : decode cX7_gainedByAll 5 = .ok (.iconst 5, 1) := by decide +kernel
theorem dX7_gainedByAll_6 : decode cX7_gainedByAll 6 = .ok (.if_icmp .ge 18, 3) := by decide +kernel
theorem dX7_gainedByAll_9 : decode cX7_gainedByAll 9 = .ok (.iload_n 1, 1) := by decide +kernel
theorem dX7_gainedByAll_10 : decode cX7_gainedByAll 10 = .ok (.aload_n 0, 1) := by decide +kernel
theorem dX7_gainedByAll_11 : decode cX7_gainedByAll 11 = .ok (.getfield 18, 3) := by decide +kernel
theorem dX7_gainedByAll_14 : decode cX7_gainedByAll 14 = .ok (.iload_n 2, 1) := by decide +kernel
theorem dX7_gainedByAll_15 : decode cX7_gainedByAll 15 = .ok (.iaload, 1) := by decide +kernel
theorem dX7_gainedByAll_16 : decode cX7_gainedByAll 16 = .ok (.iadd, 1) := by decide +kernel
theorem dX7_gainedByAll_17 : decode cX7_gainedByAll 17 = .ok (.istore_n 1, 1) := by decide +kernel
theorem dX7_gainedByAll_18 : decode cX7_gainedByAll 18 = .ok (.iinc 2 1, 3) := by decide +kernel
theorem dX7_gainedByAll_21 : decode cX7_gainedByAll 21 = .ok (.goto (-17), 3) := by decide +kernel
theorem dX7_gainedByAll_24 : decode cX7_gainedByAll 24 = .ok (.iload_n 1, 1) := by decide +kernel
theorem dX7_gainedByAll_25 : decode cX7_gainedByAll 25 = .ok (.ireturn, 1) := by decide +kernel
theorem dX3_init_0 : decode cX3_init 0 = .ok (.aload_n 0, 1) := by decide +kernel
theorem dX3_init_1 : decode cX3_init 1 = .ok (.invokespecial 3, 3) := by decide +kernel
theorem dX3_init_4 : decode cX3_init 4 = .ok (.aload_n 0, 1) := by decide +kernel
theorem dX3_init_5 : decode cX3_init 5 = .ok (.new 9, 3) := by decide +kernel
theorem dX3_init_8 : decode cX3_init 8 = .ok (.dup, 1) := by decide +kernel
theorem dX3_init_9 : decode cX3_init 9 = .ok (.invokespecial 11, 3) := by decide +kernel
theorem dX3_init_12 : decode cX3_init 12 = .ok (.putfield 12, 3) := by decide +kernel
theorem dX3_init_15 : decode cX3_init 15 = .ok (.aload_n 0, 1) := by decide +kernel
theorem dX3_init_16 : decode cX3_init 16 = .ok (.bipush 40, 2) := by decide +kernel
theorem dX3_init_18 : decode cX3_init 18 = .ok (.newarray .int, 2) := by decide +kernel
theorem dX3_init_20 : decode cX3_init 20 = .ok (.putfield 18, 3) := by decide +kernel
theorem dX3_init_23 : decode cX3_init 23 = .ok (.aload_n 0, 1) := by decide +kernel
theorem dX3_init_24 : decode cX3_init 24 = .ok (.bipush 8, 2) := by decide +kernel
theorem dX3_init_26 : decode cX3_init 26 = .ok (.newarray .int, 2) := by decide +kernel
theorem dX3_init_28 : decode cX3_init 28 = .ok (.putfield 22, 3) := by decide +kernel
theorem dX3_init_31 : decode cX3_init 31 = .ok (.return_, 1) := by decide +kernel
theorem dX3_clear_0 : decode cX3_clear 0 = .ok (.aload_n 0, 1) := by decide +kernel
theorem dX3_clear_1 : decode cX3_clear 1 = .ok (.getfield 12, 3) := by decide +kernel
theorem dX3_clear_4 : decode cX3_clear 4 = .ok (.invokevirtual 25, 3) := by decide +kernel
theorem dX3_clear_7 : decode cX3_clear 7 = .ok (.aload_n 0, 1) := by decide +kernel
theorem dX3_clear_8 : decode cX3_clear 8 = .ok (.iconst 0, 1) := by decide +kernel
theorem dX3_clear_9 : decode cX3_clear 9 = .ok (.putfield 28, 3) := by decide +kernel
theorem dX3_clear_12 : decode cX3_clear 12 = .ok (.aload_n 0, 1) := by decide +kernel
theorem dX3_clear_13 : decode cX3_clear 13 = .ok (.iconst 0, 1) := by decide +kernel
theorem dX3_clear_14 : decode cX3_clear 14 = .ok (.putfield 32, 3) := by decide +kernel
theorem dX3_clear_17 : decode cX3_clear 17 = .ok (.return_, 1) := by decide +kernel
theorem dX3_copy_0 : decode cX3_copy 0 = .ok (.aload_n 0, 1) := by decide +kernel
theorem dX3_copy_1 : decode cX3_copy 1 = .ok (.getfield 12, 3) := by decide +kernel
theorem dX3_copy_4 : decode cX3_copy 4 = .ok (.aload_n 1, 1) := by decide +kernel
theorem dX3_copy_5 : decode cX3_copy 5 = .ok (.getfield 12, 3) := by decide +kernel
theorem dX3_copy_8 : decode cX3_copy 8 = .ok (.invokevirtual 35, 3) := by decide +kernel
theorem dX3_copy_11 : decode cX3_copy 11 = .ok (.aload_n 1, 1) := by decide +kernel
theorem dX3_copy_12 : decode cX3_copy 12 = .ok (.getfield 18, 3) := by decide +kernel
theorem dX3_copy_15 : decode cX3_copy 15 = .ok (.iconst 0, 1) := by decide +kernel
theorem dX3_copy_16 : decode cX3_copy 16 = .ok (.aload_n 0, 1) := by decide +kernel
theorem dX3_copy_17 : decode cX3_copy 17 = .ok (.getfield 18, 3) := by decide +kernel
theorem dX3_copy_20 : decode cX3_copy 20 = .ok (.iconst 0, 1) := by decide +kernel
theorem dX3_copy_21 : decode cX3_copy 21 = .ok (.bipush 40, 2) := by decide +kernel
theorem dX3_copy_23 : decode cX3_copy 23 = .ok (.invokestatic 39, 3) := by decide +kernel
theorem dX3_copy_26 : decode cX3_copy 26 = .ok (.aload_n 1, 1) := by decide +kernel
theorem dX3_copy_27 : decode cX3_copy 27 = .ok (.getfield 22, 3) := by decide +kernel
theorem dX3_copy_30 : decode cX3_copy 30 = .ok (.iconst 0, 1) := by decide +kernel
theorem dX3_copy_31 : decode cX3_copy 31 = .ok (.aload_n 0, 1) := by decide +kernel
theorem dX3_copy_32 : decode cX3_copy 32 = .ok (.getfield 22, 3) := by decide +kernel
theorem dX3_copy_35 : decode cX3_copy 35 = .ok (.iconst 0, 1) := by decide +kernel
theorem dX3_copy_36 : decode cX3_copy 36 = .ok (.bipush 8, 2) := by decide +kernel
theorem dX3_copy_38 : decode cX3_copy 38 = .ok (.invokestatic 39, 3) := by decide +kernel
theorem dX3_copy_41 : decode cX3_copy 41 = .ok (.aload_n 0, 1) := by decide +kernel
theorem dX3_copy_42 : decode cX3_copy 42 = .ok (.aload_n 1, 1) := by decide +kernel
theorem dX3_copy_43 : decode cX3_copy 43 = .ok (.getfield 28, 3) := by decide +kernel
theorem dX3_copy_46 : decode cX3_copy 46 = .ok (.putfield 28, 3) := by decide +kernel
theorem dX3_copy_49 : decode cX3_copy 49 = .ok (.aload_n 0, 1) := by decide +kernel
theorem dX3_copy_50 : decode cX3_copy 50 = .ok (.aload_n 1, 1) := by decide +kernel
theorem dX3_copy_51 : decode cX3_copy 51 = .ok (.getfield 32, 3) := by decide +kernel
theorem dX3_copy_54 : decode cX3_copy 54 = .ok (.putfield 32, 3) := by decide +kernel
theorem dX3_copy_57 : decode cX3_copy 57 = .ok (.return_, 1) := by decide +kernel
set_option maxHeartbeats 4000000 in
set_option maxRecDepth 100000 in
theorem c_X7_copy (γ : kΓ) (l : Launch) (h : Nat) (h_l : Nat) (h_c : Nat) (h_g : Nat) (h_r : Nat) (h_k : Nat) (h_b : Nat) (fh_l : Nat → Int32) (fh_c : Nat → Int32) (fh_g : Nat → Int32) (fh_r : Nat → Int64) (fh_k : Nat → Int32) (fh_b : Nat → Int32) (y6 : Int32) (y7 : Int32) (y8 : Int32) (o : Nat) (o_l : Nat) (o_c : Nat) (o_g : Nat) (o_r : Nat) (o_k : Nat) (o_b : Nat) (fo_l : Nat → Int32) (fo_c : Nat → Int32) (fo_g : Nat → Int32) (fo_r : Nat → Int64) (fo_k : Nat → Int32) (fo_b : Nat → Int32) (z6 : Int32) (z7 : Int32) (z8 : Int32) : kM γ l yX7_copy cX7_copy 2 none ({ frames := 1, cells := 0, slots := 0, locals := 80 } : Room) [.ref h, .ref o] [(h, .inr (7, [.ref h_l, .ref h_c, .ref h_g, .ref h_r, .ref h_k, .ref h_b, .int y6, .int y7, .int y8])), (h_l, .inl (γ.2.1 0, 5, .inl fh_l)), (h_c, .inl (γ.2.1 0, 5, .inl fh_c)), (h_g, .inl (γ.2.1 0, 5, .inl fh_g)), (h_r, .inl (γ.2.1 1, 5, .inr (.inl fh_r))), (h_k, .inl (γ.2.1 0, 40, .inl fh_k)), (h_b, .inl (γ.2.1 0, 8, .inl fh_b)), (o, .inr (7, [.ref o_l, .ref o_c, .ref o_g, .ref o_r, .ref o_k, .ref o_b, .int z6, .int z7, .int z8])), (o_l, .inl (γ.2.1 0, 5, .inl fo_l)), (o_c, .inl (γ.2.1 0, 5, .inl fo_c)), (o_g, .inl (γ.2.1 0, 5, .inl fo_g)), (o_r, .inl (γ.2.1 1, 5, .inr (.inl fo_r))), (o_k, .inl (γ.2.1 0, 40, .inl fo_k)), (o_b, .inl (γ.2.1 0, 8, .inl fo_b))] (fun r w1 => ∃ (gh_l : Nat → Int32), ∃ (gh_c : Nat → Int32), ∃ (gh_g : Nat → Int32), ∃ (gh_r : Nat → Int64), ∃ (gh_k : Nat → Int32), ∃ (gh_b : Nat → Int32), r = none ∧ w1 = [(h, .inr (7, [.ref h_l, .ref h_c, .ref h_g, .ref h_r, .ref h_k, .ref h_b, .int z6, .int z7, .int z8])), (h_l, .inl (γ.2.1 0, 5, .inl gh_l)), (h_c, .inl (γ.2.1 0, 5, .inl gh_c)), (h_g, .inl (γ.2.1 0, 5, .inl gh_g)), (h_r, .inl (γ.2.1 1, 5, .inr (.inl gh_r))), (h_k, .inl (γ.2.1 0, 40, .inl gh_k)), (h_b, .inl (γ.2.1 0, 8, .inl gh_b)), (o, .inr (7, [.ref o_l, .ref o_c, .ref o_g, .ref o_r, .ref o_k, .ref o_b, .int z6, .int z7, .int z8])), (o_l, .inl (γ.2.1 0, 5, .inl fo_l)), (o_c, .inl (γ.2.1 0, 5, .inl fo_c)), (o_g, .inl (γ.2.1 0, 5, .inl fo_g)), (o_r, .inl (γ.2.1 1, 5, .inr (.inl fo_r))), (o_k, .inl (γ.2.1 0, 40, .inl fo_k)), (o_b, .inl (γ.2.1 0, 8, .inl fo_b))] ∧ (∀ j, j < 5 → gh_l j = fo_l j) ∧ (∀ j, j < 5 → gh_c j = fo_c j) ∧ (∀ j, j < 5 → gh_g j = fo_g j) ∧ (∀ j, j < 5 → gh_r j = fo_r j) ∧ (∀ j, j < 40 → gh_k j = fo_k j) ∧ (∀ j, j < 8 → gh_b j = fo_b j)) := by
  refine k_ofW (by decide) (Nat.le_of_ble_eq_true rfl) ?_
  intro p e s m below meth c A ls hC hr hlocks hname hw hl
  have hx := hC.1
  have hb := hC.2.1
  have hl : lv_has ls 2 [(0, .ref h), (1, .ref o)] := hl
  refine lv_aload_n hx hb dX7_copy_0 rfl (lv_at hl 1 rfl) ?_
  refine fg_RX7_9 hC hw 7 rfl rfl dX7_copy_1 ?_
  refine lv_iconst (v := 0) hx hb dX7_copy_4 (by decide) ?_
  refine lv_aload_n hx hb dX7_copy_5 rfl (lv_at hl 0 rfl) ?_
  refine fg_RX7_9 hC hw 0 rfl rfl dX7_copy_6 ?_
  refine lv_iconst (v := 0) hx hb dX7_copy_9 (by decide) ?_
  refine lv_iconst (v := 5) hx hb dX7_copy_10 (by decide) ?_
  refine k_copyi hC hw gw_764 hl.1 8 1 rfl rfl (by decide) (by decide) (by decide) (by decide) (by decide) (by decide) (by decide) dX7_copy_11 (fun H locs hw => ?_)
  obtain ⟨f_41, ef_41⟩ : ∃ g, g = va_cpy fo_l fh_l (0 : Int32).toNatClampNeg (0 : Int32).toNatClampNeg (5 : Int32).toNatClampNeg := ⟨_, rfl⟩
  have hw : kW γ A [(h, .inr (7, [.ref h_l, .ref h_c, .ref h_g, .ref h_r, .ref h_k, .ref h_b, .int y6, .int y7, .int y8])), (h_l, .inl (γ.2.1 0, 5, .inl f_41)), (h_c, .inl (γ.2.1 0, 5, .inl fh_c)), (h_g, .inl (γ.2.1 0, 5, .inl fh_g)), (h_r, .inl (γ.2.1 1, 5, .inr (.inl fh_r))), (h_k, .inl (γ.2.1 0, 40, .inl fh_k)), (h_b, .inl (γ.2.1 0, 8, .inl fh_b)), (o, .inr (7, [.ref o_l, .ref o_c, .ref o_g, .ref o_r, .ref o_k, .ref o_b, .int z6, .int z7, .int z8])), (o_l, .inl (γ.2.1 0, 5, .inl fo_l)), (o_c, .inl (γ.2.1 0, 5, .inl fo_c)), (o_g, .inl (γ.2.1 0, 5, .inl fo_g)), (o_r, .inl (γ.2.1 1, 5, .inr (.inl fo_r))), (o_k, .inl (γ.2.1 0, 40, .inl fo_k)), (o_b, .inl (γ.2.1 0, 8, .inl fo_b))] s H locs := by rw [ef_41]; exact hw
  refine W.eq (g2 := F0 m 14 ls []) rfl ?_
  refine lv_aload_n hx hb dX7_copy_14 rfl (lv_at hl 1 rfl) ?_
  refine fg_RX7_15 hC hw 7 rfl rfl dX7_copy_15 ?_
  refine lv_iconst (v := 0) hx hb dX7_copy_18 (by decide) ?_
  refine lv_aload_n hx hb dX7_copy_19 rfl (lv_at hl 0 rfl) ?_
  refine fg_RX7_15 hC hw 0 rfl rfl dX7_copy_20 ?_
  refine lv_iconst (v := 0) hx hb dX7_copy_23 (by decide) ?_
  refine lv_iconst (v := 5) hx hb dX7_copy_24 (by decide) ?_
  refine k_copyi hC hw gw_764 hl.1 9 2 rfl rfl (by decide) (by decide) (by decide) (by decide) (by decide) (by decide) (by decide) dX7_copy_25 (fun H locs hw => ?_)
  obtain ⟨f_42, ef_42⟩ : ∃ g, g = va_cpy fo_c fh_c (0 : Int32).toNatClampNeg (0 : Int32).toNatClampNeg (5 : Int32).toNatClampNeg := ⟨_, rfl⟩
  have hw : kW γ A [(h, .inr (7, [.ref h_l, .ref h_c, .ref h_g, .ref h_r, .ref h_k, .ref h_b, .int y6, .int y7, .int y8])), (h_l, .inl (γ.2.1 0, 5, .inl f_41)), (h_c, .inl (γ.2.1 0, 5, .inl f_42)), (h_g, .inl (γ.2.1 0, 5, .inl fh_g)), (h_r, .inl (γ.2.1 1, 5, .inr (.inl fh_r))), (h_k, .inl (γ.2.1 0, 40, .inl fh_k)), (h_b, .inl (γ.2.1 0, 8, .inl fh_b)), (o, .inr (7, [.ref o_l, .ref o_c, .ref o_g, .ref o_r, .ref o_k, .ref o_b, .int z6, .int z7, .int z8])), (o_l, .inl (γ.2.1 0, 5, .inl fo_l)), (o_c, .inl (γ.2.1 0, 5, .inl fo_c)), (o_g, .inl (γ.2.1 0, 5, .inl fo_g)), (o_r, .inl (γ.2.1 1, 5, .inr (.inl fo_r))), (o_k, .inl (γ.2.1 0, 40, .inl fo_k)), (o_b, .inl (γ.2.1 0, 8, .inl fo_b))] s H locs := by rw [ef_42]; exact hw
  refine W.eq (g2 := F0 m 28 ls []) rfl ?_
  refine lv_aload_n hx hb dX7_copy_28 rfl (lv_at hl 1 rfl) ?_
  refine fg_RX7_18 hC hw 7 rfl rfl dX7_copy_29 ?_
  refine lv_iconst (v := 0) hx hb dX7_copy_32 (by decide) ?_
  refine lv_aload_n hx hb dX7_copy_33 rfl (lv_at hl 0 rfl) ?_
  refine fg_RX7_18 hC hw 0 rfl rfl dX7_copy_34 ?_
  refine lv_iconst (v := 0) hx hb dX7_copy_37 (by decide) ?_
  refine lv_iconst (v := 5) hx hb dX7_copy_38 (by decide) ?_
  refine k_copyi hC hw gw_764 hl.1 10 3 rfl rfl (by decide) (by decide) (by decide) (by decide) (by decide) (by decide) (by decide) dX7_copy_39 (fun H locs hw => ?_)
  obtain ⟨f_43, ef_43⟩ : ∃ g, g = va_cpy fo_g fh_g (0 : Int32).toNatClampNeg (0 : Int32).toNatClampNeg (5 : Int32).toNatClampNeg := ⟨_, rfl⟩
  have hw : kW γ A [(h, .inr (7, [.ref h_l, .ref h_c, .ref h_g, .ref h_r, .ref h_k, .ref h_b, .int y6, .int y7, .int y8])), (h_l, .inl (γ.2.1 0, 5, .inl f_41)), (h_c, .inl (γ.2.1 0, 5, .inl f_42)), (h_g, .inl (γ.2.1 0, 5, .inl f_43)), (h_r, .inl (γ.2.1 1, 5, .inr (.inl fh_r))), (h_k, .inl (γ.2.1 0, 40, .inl fh_k)), (h_b, .inl (γ.2.1 0, 8, .inl fh_b)), (o, .inr (7, [.ref o_l, .ref o_c, .ref o_g, .ref o_r, .ref o_k, .ref o_b, .int z6, .int z7, .int z8])), (o_l, .inl (γ.2.1 0, 5, .inl fo_l)), (o_c, .inl (γ.2.1 0, 5, .inl fo_c)), (o_g, .inl (γ.2.1 0, 5, .inl fo_g)), (o_r, .inl (γ.2.1 1, 5, .inr (.inl fo_r))), (o_k, .inl (γ.2.1 0, 40, .inl fo_k)), (o_b, .inl (γ.2.1 0, 8, .inl fo_b))] s H locs := by rw [ef_43]; exact hw
  refine W.eq (g2 := F0 m 42 ls []) rfl ?_
  refine lv_aload_n hx hb dX7_copy_42 rfl (lv_at hl 1 rfl) ?_
  refine fg_RX7_21 hC hw 7 rfl rfl dX7_copy_43 ?_
  refine lv_iconst (v := 0) hx hb dX7_copy_46 (by decide) ?_
  refine lv_aload_n hx hb dX7_copy_47 rfl (lv_at hl 0 rfl) ?_
  refine fg_RX7_21 hC hw 0 rfl rfl dX7_copy_48 ?_
  refine lv_iconst (v := 0) hx hb dX7_copy_51 (by decide) ?_
  refine lv_iconst (v := 5) hx hb dX7_copy_52 (by decide) ?_
  refine k_copyl hC hw gw_764 hl.1 11 4 rfl rfl (by decide) (by decide) (by decide) (by decide) (by decide) (by decide) (by decide) dX7_copy_53 (fun H locs hw => ?_)
  obtain ⟨f_44, ef_44⟩ : ∃ g, g = va_cpy fo_r fh_r (0 : Int32).toNatClampNeg (0 : Int32).toNatClampNeg (5 : Int32).toNatClampNeg := ⟨_, rfl⟩
  have hw : kW γ A [(h, .inr (7, [.ref h_l, .ref h_c, .ref h_g, .ref h_r, .ref h_k, .ref h_b, .int y6, .int y7, .int y8])), (h_l, .inl (γ.2.1 0, 5, .inl f_41)), (h_c, .inl (γ.2.1 0, 5, .inl f_42)), (h_g, .inl (γ.2.1 0, 5, .inl f_43)), (h_r, .inl (γ.2.1 1, 5, .inr (.inl f_44))), (h_k, .inl (γ.2.1 0, 40, .inl fh_k)), (h_b, .inl (γ.2.1 0, 8, .inl fh_b)), (o, .inr (7, [.ref o_l, .ref o_c, .ref o_g, .ref o_r, .ref o_k, .ref o_b, .int z6, .int z7, .int z8])), (o_l, .inl (γ.2.1 0, 5, .inl fo_l)), (o_c, .inl (γ.2.1 0, 5, .inl fo_c)), (o_g, .inl (γ.2.1 0, 5, .inl fo_g)), (o_r, .inl (γ.2.1 1, 5, .inr (.inl fo_r))), (o_k, .inl (γ.2.1 0, 40, .inl fo_k)), (o_b, .inl (γ.2.1 0, 8, .inl fo_b))] s H locs := by rw [ef_44]; exact hw
  refine W.eq (g2 := F0 m 56 ls []) rfl ?_
  refine lv_aload_n hx hb dX7_copy_56 rfl (lv_at hl 1 rfl) ?_
  refine fg_RX7_25 hC hw 7 rfl rfl dX7_copy_57 ?_
  refine lv_iconst (v := 0) hx hb dX7_copy_60 (by decide) ?_
  refine lv_aload_n hx hb dX7_copy_61 rfl (lv_at hl 0 rfl) ?_
  refine fg_RX7_25 hC hw 0 rfl rfl dX7_copy_62 ?_
  refine lv_iconst (v := 0) hx hb dX7_copy_65 (by decide) ?_
  refine lv_bipush (v := 40) hx hb dX7_copy_66 (by decide) ?_
  refine k_copyi hC hw gw_764 hl.1 12 5 rfl rfl (by decide) (by decide) (by decide) (by decide) (by decide) (by decide) (by decide) dX7_copy_68 (fun H locs hw => ?_)
  obtain ⟨f_45, ef_45⟩ : ∃ g, g = va_cpy fo_k fh_k (0 : Int32).toNatClampNeg (0 : Int32).toNatClampNeg (40 : Int32).toNatClampNeg := ⟨_, rfl⟩
  have hw : kW γ A [(h, .inr (7, [.ref h_l, .ref h_c, .ref h_g, .ref h_r, .ref h_k, .ref h_b, .int y6, .int y7, .int y8])), (h_l, .inl (γ.2.1 0, 5, .inl f_41)), (h_c, .inl (γ.2.1 0, 5, .inl f_42)), (h_g, .inl (γ.2.1 0, 5, .inl f_43)), (h_r, .inl (γ.2.1 1, 5, .inr (.inl f_44))), (h_k, .inl (γ.2.1 0, 40, .inl f_45)), (h_b, .inl (γ.2.1 0, 8, .inl fh_b)), (o, .inr (7, [.ref o_l, .ref o_c, .ref o_g, .ref o_r, .ref o_k, .ref o_b, .int z6, .int z7, .int z8])), (o_l, .inl (γ.2.1 0, 5, .inl fo_l)), (o_c, .inl (γ.2.1 0, 5, .inl fo_c)), (o_g, .inl (γ.2.1 0, 5, .inl fo_g)), (o_r, .inl (γ.2.1 1, 5, .inr (.inl fo_r))), (o_k, .inl (γ.2.1 0, 40, .inl fo_k)), (o_b, .inl (γ.2.1 0, 8, .inl fo_b))] s H locs := by rw [ef_45]; exact hw
  refine W.eq (g2 := F0 m 71 ls []) rfl ?_
  refine lv_aload_n hx hb dX7_copy_71 rfl (lv_at hl 1 rfl) ?_
  refine fg_RX7_28 hC hw 7 rfl rfl dX7_copy_72 ?_
  refine lv_iconst (v := 0) hx hb dX7_copy_75 (by decide) ?_
  refine lv_aload_n hx hb dX7_copy_76 rfl (lv_at hl 0 rfl) ?_
  refine fg_RX7_28 hC hw 0 rfl rfl dX7_copy_77 ?_
  refine lv_iconst (v := 0) hx hb dX7_copy_80 (by decide) ?_
  refine lv_bipush (v := 8) hx hb dX7_copy_81 (by decide) ?_
  refine k_copyi hC hw gw_764 hl.1 13 6 rfl rfl (by decide) (by decide) (by decide) (by decide) (by decide) (by decide) (by decide) dX7_copy_83 (fun H locs hw => ?_)
  obtain ⟨f_46, ef_46⟩ : ∃ g, g = va_cpy fo_b fh_b (0 : Int32).toNatClampNeg (0 : Int32).toNatClampNeg (8 : Int32).toNatClampNeg := ⟨_, rfl⟩
  have hw : kW γ A [(h, .inr (7, [.ref h_l, .ref h_c, .ref h_g, .ref h_r, .ref h_k, .ref h_b, .int y6, .int y7, .int y8])), (h_l, .inl (γ.2.1 0, 5, .inl f_41)), (h_c, .inl (γ.2.1 0, 5, .inl f_42)), (h_g, .inl (γ.2.1 0, 5, .inl f_43)), (h_r, .inl (γ.2.1 1, 5, .inr (.inl f_44))), (h_k, .inl (γ.2.1 0, 40, .inl f_45)), (h_b, .inl (γ.2.1 0, 8, .inl f_46)), (o, .inr (7, [.ref o_l, .ref o_c, .ref o_g, .ref o_r, .ref o_k, .ref o_b, .int z6, .int z7, .int z8])), (o_l, .inl (γ.2.1 0, 5, .inl fo_l)), (o_c, .inl (γ.2.1 0, 5, .inl fo_c)), (o_g, .inl (γ.2.1 0, 5, .inl fo_g)), (o_r, .inl (γ.2.1 1, 5, .inr (.inl fo_r))), (o_k, .inl (γ.2.1 0, 40, .inl fo_k)), (o_b, .inl (γ.2.1 0, 8, .inl fo_b))] s H locs := by rw [ef_46]; exact hw
  refine W.eq (g2 := F0 m 86 ls []) rfl ?_
  refine lv_aload_n hx hb dX7_copy_86 rfl (lv_at hl 0 rfl) ?_
  refine lv_aload_n hx hb dX7_copy_87 rfl (lv_at hl 1 rfl) ?_
  refine fg_RX7_43 hC hw 7 rfl rfl dX7_copy_88 ?_
  refine fs_RX7_43 hC hw 0 rfl rfl rfl (Nat.le_of_ble_eq_true rfl) dX7_copy_91 (fun H locs hw => ?_)
  have hw : kW γ A [(h, .inr (7, [.ref h_l, .ref h_c, .ref h_g, .ref h_r, .ref h_k, .ref h_b, .int z6, .int y7, .int y8])), (h_l, .inl (γ.2.1 0, 5, .inl f_41)), (h_c, .inl (γ.2.1 0, 5, .inl f_42)), (h_g, .inl (γ.2.1 0, 5, .inl f_43)), (h_r, .inl (γ.2.1 1, 5, .inr (.inl f_44))), (h_k, .inl (γ.2.1 0, 40, .inl f_45)), (h_b, .inl (γ.2.1 0, 8, .inl f_46)), (o, .inr (7, [.ref o_l, .ref o_c, .ref o_g, .ref o_r, .ref o_k, .ref o_b, .int z6, .int z7, .int z8])), (o_l, .inl (γ.2.1 0, 5, .inl fo_l)), (o_c, .inl (γ.2.1 0, 5, .inl fo_c)), (o_g, .inl (γ.2.1 0, 5, .inl fo_g)), (o_r, .inl (γ.2.1 1, 5, .inr (.inl fo_r))), (o_k, .inl (γ.2.1 0, 40, .inl fo_k)), (o_b, .inl (γ.2.1 0, 8, .inl fo_b))] s H locs := hw
  refine lv_aload_n hx hb dX7_copy_94 rfl (lv_at hl 0 rfl) ?_
  refine lv_aload_n hx hb dX7_copy_95 rfl (lv_at hl 1 rfl) ?_
  refine fg_RX7_47 hC hw 7 rfl rfl dX7_copy_96 ?_
  refine fs_RX7_47 hC hw 0 rfl rfl rfl (Nat.le_of_ble_eq_true rfl) dX7_copy_99 (fun H locs hw => ?_)
  have hw : kW γ A [(h, .inr (7, [.ref h_l, .ref h_c, .ref h_g, .ref h_r, .ref h_k, .ref h_b, .int z6, .int z7, .int y8])), (h_l, .inl (γ.2.1 0, 5, .inl f_41)), (h_c, .inl (γ.2.1 0, 5, .inl f_42)), (h_g, .inl (γ.2.1 0, 5, .inl f_43)), (h_r, .inl (γ.2.1 1, 5, .inr (.inl f_44))), (h_k, .inl (γ.2.1 0, 40, .inl f_45)), (h_b, .inl (γ.2.1 0, 8, .inl f_46)), (o, .inr (7, [.ref o_l, .ref o_c, .ref o_g, .ref o_r, .ref o_k, .ref o_b, .int z6, .int z7, .int z8])), (o_l, .inl (γ.2.1 0, 5, .inl fo_l)), (o_c, .inl (γ.2.1 0, 5, .inl fo_c)), (o_g, .inl (γ.2.1 0, 5, .inl fo_g)), (o_r, .inl (γ.2.1 1, 5, .inr (.inl fo_r))), (o_k, .inl (γ.2.1 0, 40, .inl fo_k)), (o_b, .inl (γ.2.1 0, 8, .inl fo_b))] s H locs := hw
  refine lv_aload_n hx hb dX7_copy_102 rfl (lv_at hl 0 rfl) ?_
  refine lv_aload_n hx hb dX7_copy_103 rfl (lv_at hl 1 rfl) ?_
  refine fg_RX7_50 hC hw 7 rfl rfl dX7_copy_104 ?_
  refine fs_RX7_50 hC hw 0 rfl rfl rfl (Nat.le_of_ble_eq_true rfl) dX7_copy_107 (fun H locs hw => ?_)
  have hw : kW γ A [(h, .inr (7, [.ref h_l, .ref h_c, .ref h_g, .ref h_r, .ref h_k, .ref h_b, .int z6, .int z7, .int z8])), (h_l, .inl (γ.2.1 0, 5, .inl f_41)), (h_c, .inl (γ.2.1 0, 5, .inl f_42)), (h_g, .inl (γ.2.1 0, 5, .inl f_43)), (h_r, .inl (γ.2.1 1, 5, .inr (.inl f_44))), (h_k, .inl (γ.2.1 0, 40, .inl f_45)), (h_b, .inl (γ.2.1 0, 8, .inl f_46)), (o, .inr (7, [.ref o_l, .ref o_c, .ref o_g, .ref o_r, .ref o_k, .ref o_b, .int z6, .int z7, .int z8])), (o_l, .inl (γ.2.1 0, 5, .inl fo_l)), (o_c, .inl (γ.2.1 0, 5, .inl fo_c)), (o_g, .inl (γ.2.1 0, 5, .inl fo_g)), (o_r, .inl (γ.2.1 1, 5, .inr (.inl fo_r))), (o_k, .inl (γ.2.1 0, 40, .inl fo_k)), (o_b, .inl (γ.2.1 0, 8, .inl fo_b))] s H locs := hw
  exact k_vret hC hr hlocks hw [0, 1, 2, 3, 4, 5, 6, 7, 8, 9, 10, 11, 12, 13] rfl rfl ⟨f_41, f_42, f_43, f_44, f_45, f_46, rfl, rfl, (fun j hj => by rw [ef_41]; exact k_cpyeq hj), (fun j hj => by rw [ef_42]; exact k_cpyeq hj), (fun j hj => by rw [ef_43]; exact k_cpyeq hj), (fun j hj => by rw [ef_44]; exact k_cpyeq hj), (fun j hj => by rw [ef_45]; exact k_cpyeq hj), (fun j hj => by rw [ef_46]; exact k_cpyeq hj)⟩ (by decide) (by decide) dX7_copy_110

set_option maxHeartbeats 4000000 in
set_option maxRecDepth 100000 in
theorem c_X7_gainedByAll (γ : kΓ) (l : Launch) (h : Nat) (h_l : Nat) (h_c : Nat) (h_g : Nat) (h_r : Nat) (h_k : Nat) (h_b : Nat) (fg : Nat → Int32) (y6 : Int32) (y7 : Int32) (y8 : Int32) (hg : ∀ j, j < 5 → fg j = 0) : kM γ l yX7_gainedByAll cX7_gainedByAll 3 ((some .int)) ({ frames := 0, cells := 0, slots := 0, locals := 0 } : Room) [.ref h] [(h, .inr (7, [.ref h_l, .ref h_c, .ref h_g, .ref h_r, .ref h_k, .ref h_b, .int y6, .int y7, .int y8])), (h_g, .inl (γ.2.1 0, 5, .inl fg))] (fun r w1 => r = some (.int 0) ∧ w1 = [(h, .inr (7, [.ref h_l, .ref h_c, .ref h_g, .ref h_r, .ref h_k, .ref h_b, .int y6, .int y7, .int y8])), (h_g, .inl (γ.2.1 0, 5, .inl fg))]) := by
  refine k_ofW (by decide) (Nat.le_of_ble_eq_true rfl) ?_
  intro p e s m below meth c A ls hC hr hlocks hname hw hl
  have hx := hC.1
  have hb := hC.2.1
  have hl : lv_has ls 3 [(0, .ref h)] := hl
  refine lv_iconst (v := 0) hx hb dX7_gainedByAll_0 (by decide) ?_
  refine lv_istore_n (lv' := [(1, .int 0), (0, .ref h)]) hx hb dX7_gainedByAll_1 rfl hl (by decide) rfl (fun ls hl => ?_)
  refine lv_iconst (v := 0) hx hb dX7_gainedByAll_2 (by decide) ?_
  refine lv_istore_n (lv' := [(2, .int 0), (1, .int 0), (0, .ref h)]) hx hb dX7_gainedByAll_3 rfl hl (by decide) rfl (fun ls hl => ?_)
  refine lv_iload_n hx hb dX7_gainedByAll_4 rfl (lv_at hl 0 rfl) ?_
  refine lv_iconst (v := 5) hx hb dX7_gainedByAll_5 (by decide) ?_
  refine lv_icmp_ge (tgt := 24) hx hb dX7_gainedByAll_6 (by decide) (fun h => absurd h (by decide)) (fun _ => ?_)
  refine lv_iload_n hx hb dX7_gainedByAll_9 rfl (lv_at hl 1 rfl) ?_
  refine lv_aload_n hx hb dX7_gainedByAll_10 rfl (lv_at hl 2 rfl) ?_
  refine fg_RX7_18 hC hw 0 rfl rfl dX7_gainedByAll_11 ?_
  refine lv_iload_n hx hb dX7_gainedByAll_14 rfl (lv_at hl 0 rfl) ?_
  refine k_iald hC hw 1 rfl (k_in0 (by decide)) dX7_gainedByAll_15 ?_
  refine lv_topi (fun x_47 ex_47 => ?_)
  obtain rfl : x_47 = 0 := (show x_47 = fg 0 from ex_47).trans (hg 0 (by decide))
  refine lv_iadd hx hb dX7_gainedByAll_16 ?_
  refine lv_topi (fun x_48 ex_48 => ?_)
  obtain rfl : x_48 = 0 := ex_48.trans (by decide)
  refine lv_istore_n (lv' := [(1, .int 0), (2, .int 0), (0, .ref h)]) hx hb dX7_gainedByAll_17 rfl hl (by decide) rfl (fun ls hl => ?_)
  refine lv_iinc (v := 1) (lv' := [(2, .int 1), (1, .int 0), (0, .ref h)]) hx hb dX7_gainedByAll_18 hl (k := 1) rfl (by decide) (by decide) rfl (fun ls hl => ?_)
  refine lv_goto (tgt := 4) hx hb dX7_gainedByAll_21 (by decide) ?_
  refine lv_iload_n hx hb dX7_gainedByAll_4 rfl (lv_at hl 0 rfl) ?_
  refine lv_iconst (v := 5) hx hb dX7_gainedByAll_5 (by decide) ?_
  refine lv_icmp_ge (tgt := 24) hx hb dX7_gainedByAll_6 (by decide) (fun h => absurd h (by decide)) (fun _ => ?_)
  refine lv_iload_n hx hb dX7_gainedByAll_9 rfl (lv_at hl 1 rfl) ?_
  refine lv_aload_n hx hb dX7_gainedByAll_10 rfl (lv_at hl 2 rfl) ?_
  refine fg_RX7_18 hC hw 0 rfl rfl dX7_gainedByAll_11 ?_
  refine lv_iload_n hx hb dX7_gainedByAll_14 rfl (lv_at hl 0 rfl) ?_
  refine k_iald hC hw 1 rfl (k_in0 (by decide)) dX7_gainedByAll_15 ?_
  refine lv_topi (fun x_49 ex_49 => ?_)
  obtain rfl : x_49 = 0 := (show x_49 = fg 1 from ex_49).trans (hg 1 (by decide))
  refine lv_iadd hx hb dX7_gainedByAll_16 ?_
  refine lv_topi (fun x_50 ex_50 => ?_)
  obtain rfl : x_50 = 0 := ex_50.trans (by decide)
  refine lv_istore_n (lv' := [(1, .int 0), (2, .int 1), (0, .ref h)]) hx hb dX7_gainedByAll_17 rfl hl (by decide) rfl (fun ls hl => ?_)
  refine lv_iinc (v := 2) (lv' := [(2, .int 2), (1, .int 0), (0, .ref h)]) hx hb dX7_gainedByAll_18 hl (k := 1) rfl (by decide) (by decide) rfl (fun ls hl => ?_)
  refine lv_goto (tgt := 4) hx hb dX7_gainedByAll_21 (by decide) ?_
  refine lv_iload_n hx hb dX7_gainedByAll_4 rfl (lv_at hl 0 rfl) ?_
  refine lv_iconst (v := 5) hx hb dX7_gainedByAll_5 (by decide) ?_
  refine lv_icmp_ge (tgt := 24) hx hb dX7_gainedByAll_6 (by decide) (fun h => absurd h (by decide)) (fun _ => ?_)
  refine lv_iload_n hx hb dX7_gainedByAll_9 rfl (lv_at hl 1 rfl) ?_
  refine lv_aload_n hx hb dX7_gainedByAll_10 rfl (lv_at hl 2 rfl) ?_
  refine fg_RX7_18 hC hw 0 rfl rfl dX7_gainedByAll_11 ?_
  refine lv_iload_n hx hb dX7_gainedByAll_14 rfl (lv_at hl 0 rfl) ?_
  refine k_iald hC hw 1 rfl (k_in0 (by decide)) dX7_gainedByAll_15 ?_
  refine lv_topi (fun x_51 ex_51 => ?_)
  obtain rfl : x_51 = 0 := (show x_51 = fg 2 from ex_51).trans (hg 2 (by decide))
  refine lv_iadd hx hb dX7_gainedByAll_16 ?_
  refine lv_topi (fun x_52 ex_52 => ?_)
  obtain rfl : x_52 = 0 := ex_52.trans (by decide)
  refine lv_istore_n (lv' := [(1, .int 0), (2, .int 2), (0, .ref h)]) hx hb dX7_gainedByAll_17 rfl hl (by decide) rfl (fun ls hl => ?_)
  refine lv_iinc (v := 3) (lv' := [(2, .int 3), (1, .int 0), (0, .ref h)]) hx hb dX7_gainedByAll_18 hl (k := 1) rfl (by decide) (by decide) rfl (fun ls hl => ?_)
  refine lv_goto (tgt := 4) hx hb dX7_gainedByAll_21 (by decide) ?_
  refine lv_iload_n hx hb dX7_gainedByAll_4 rfl (lv_at hl 0 rfl) ?_
  refine lv_iconst (v := 5) hx hb dX7_gainedByAll_5 (by decide) ?_
  refine lv_icmp_ge (tgt := 24) hx hb dX7_gainedByAll_6 (by decide) (fun h => absurd h (by decide)) (fun _ => ?_)
  refine lv_iload_n hx hb dX7_gainedByAll_9 rfl (lv_at hl 1 rfl) ?_
  refine lv_aload_n hx hb dX7_gainedByAll_10 rfl (lv_at hl 2 rfl) ?_
  refine fg_RX7_18 hC hw 0 rfl rfl dX7_gainedByAll_11 ?_
  refine lv_iload_n hx hb dX7_gainedByAll_14 rfl (lv_at hl 0 rfl) ?_
  refine k_iald hC hw 1 rfl (k_in0 (by decide)) dX7_gainedByAll_15 ?_
  refine lv_topi (fun x_53 ex_53 => ?_)
  obtain rfl : x_53 = 0 := (show x_53 = fg 3 from ex_53).trans (hg 3 (by decide))
  refine lv_iadd hx hb dX7_gainedByAll_16 ?_
  refine lv_topi (fun x_54 ex_54 => ?_)
  obtain rfl : x_54 = 0 := ex_54.trans (by decide)
  refine lv_istore_n (lv' := [(1, .int 0), (2, .int 3), (0, .ref h)]) hx hb dX7_gainedByAll_17 rfl hl (by decide) rfl (fun ls hl => ?_)
  refine lv_iinc (v := 4) (lv' := [(2, .int 4), (1, .int 0), (0, .ref h)]) hx hb dX7_gainedByAll_18 hl (k := 1) rfl (by decide) (by decide) rfl (fun ls hl => ?_)
  refine lv_goto (tgt := 4) hx hb dX7_gainedByAll_21 (by decide) ?_
  refine lv_iload_n hx hb dX7_gainedByAll_4 rfl (lv_at hl 0 rfl) ?_
  refine lv_iconst (v := 5) hx hb dX7_gainedByAll_5 (by decide) ?_
  refine lv_icmp_ge (tgt := 24) hx hb dX7_gainedByAll_6 (by decide) (fun h => absurd h (by decide)) (fun _ => ?_)
  refine lv_iload_n hx hb dX7_gainedByAll_9 rfl (lv_at hl 1 rfl) ?_
  refine lv_aload_n hx hb dX7_gainedByAll_10 rfl (lv_at hl 2 rfl) ?_
  refine fg_RX7_18 hC hw 0 rfl rfl dX7_gainedByAll_11 ?_
  refine lv_iload_n hx hb dX7_gainedByAll_14 rfl (lv_at hl 0 rfl) ?_
  refine k_iald hC hw 1 rfl (k_in0 (by decide)) dX7_gainedByAll_15 ?_
  refine lv_topi (fun x_55 ex_55 => ?_)
  obtain rfl : x_55 = 0 := (show x_55 = fg 4 from ex_55).trans (hg 4 (by decide))
  refine lv_iadd hx hb dX7_gainedByAll_16 ?_
  refine lv_topi (fun x_56 ex_56 => ?_)
  obtain rfl : x_56 = 0 := ex_56.trans (by decide)
  refine lv_istore_n (lv' := [(1, .int 0), (2, .int 4), (0, .ref h)]) hx hb dX7_gainedByAll_17 rfl hl (by decide) rfl (fun ls hl => ?_)
  refine lv_iinc (v := 5) (lv' := [(2, .int 5), (1, .int 0), (0, .ref h)]) hx hb dX7_gainedByAll_18 hl (k := 1) rfl (by decide) (by decide) rfl (fun ls hl => ?_)
  refine lv_goto (tgt := 4) hx hb dX7_gainedByAll_21 (by decide) ?_
  refine lv_iload_n hx hb dX7_gainedByAll_4 rfl (lv_at hl 0 rfl) ?_
  refine lv_iconst (v := 5) hx hb dX7_gainedByAll_5 (by decide) ?_
  refine lv_icmp_ge (tgt := 24) hx hb dX7_gainedByAll_6 (by decide) (fun _ => ?_) (fun h => absurd (by decide) h)
  refine lv_iload_n hx hb dX7_gainedByAll_24 rfl (lv_at hl 1 rfl) ?_
  exact k_iret hC hr hlocks hw [0, 1] rfl rfl ⟨rfl, rfl⟩ (by decide) (by decide) dX7_gainedByAll_25

set_option maxHeartbeats 4000000 in
set_option maxRecDepth 100000 in
theorem c_X3_init (γ : kΓ) (l : Launch) (h : Nat) : kM γ l yX3_init cX3_init 1 none ({ frames := 3, cells := 9, slots := 125, locals := 64 } : Room) [.ref h] [(h, .inr (3, [.null, .null, .null, .int 0, .int 0, .int 0]))] (fun r w1 => ∃ (hs : Nat), ∃ (hs_l : Nat), ∃ (hs_c : Nat), ∃ (hs_g : Nat), ∃ (hs_r : Nat), ∃ (hs_k : Nat), ∃ (hs_b : Nat), ∃ (hy : Nat), ∃ (hq : Nat), ∃ (ghs_l : Nat → Int32), ∃ (ghs_c : Nat → Int32), ∃ (ghs_g : Nat → Int32), ∃ (ghs_r : Nat → Int64), ∃ (ghs_k : Nat → Int32), ∃ (ghs_b : Nat → Int32), ∃ (ghy : Nat → Int32), ∃ (ghq : Nat → Int32), r = none ∧ w1 = [(h, .inr (3, [.ref hs, .ref hy, .ref hq, .int 0, .int 0, .int 0])), (hs, .inr (7, [.ref hs_l, .ref hs_c, .ref hs_g, .ref hs_r, .ref hs_k, .ref hs_b, .int 0, .int 0, .int 0])), (hs_l, .inl (γ.2.1 0, 5, .inl ghs_l)), (hs_c, .inl (γ.2.1 0, 5, .inl ghs_c)), (hs_g, .inl (γ.2.1 0, 5, .inl ghs_g)), (hs_r, .inl (γ.2.1 1, 5, .inr (.inl ghs_r))), (hs_k, .inl (γ.2.1 0, 40, .inl ghs_k)), (hs_b, .inl (γ.2.1 0, 8, .inl ghs_b)), (hy, .inl (γ.2.1 0, 40, .inl ghy)), (hq, .inl (γ.2.1 0, 8, .inl ghq))] ∧ (∀ j, j < 5 → ghs_l j = (-1)) ∧ (∀ j, j < 5 → ghs_c j = 0) ∧ (∀ j, j < 5 → ghs_g j = 0) ∧ (∀ j, j < 5 → ghs_r j = 0) ∧ (∀ j, j < 40 → ghs_k j = 0) ∧ (∀ j, j < 8 → ghs_b j = 0)) := by
  refine k_ofW (by decide) (Nat.le_of_ble_eq_true rfl) ?_
  intro p e s m below meth c A ls hC hr hlocks hname hw hl
  have hx := hC.1
  have hb := hC.2.1
  have hin : meth.name = "<init>" := hname
  have hl : lv_has ls 1 [(0, .ref h)] := hl
  refine lv_aload_n hx hb dX3_init_0 rfl (lv_at hl 0 rfl) ?_
  refine k_objInit hC gw_150 hl.1 (by decide) (Nat.le_of_ble_eq_true rfl) dX3_init_1 ?_
  refine W.eq (g2 := F0 m 4 ls []) rfl ?_
  refine lv_aload_n hx hb dX3_init_4 rfl (lv_at hl 0 rfl) ?_
  refine k_new (ci := 7) hC hw in_RX7 tyX7 tyX7_ok gw_151 gw_79 gw_6 rfl nf_RX7 (by decide) (by decide) dX3_init_5 (fun q_57 H hw => ?_)
  have hw : kW γ A [(h, .inr (3, [.null, .null, .null, .int 0, .int 0, .int 0])), (q_57, .inr (7, [.null, .null, .null, .null, .null, .null, .int 0, .int 0, .int 0]))] s H [] := hw
  refine W.widen (k := 1) (n := 9) (by decide) (by decide) ?_
  refine lv_dup hx hb dX3_init_8 rfl ?_
  refine k_I (wr := [(h, .inr (3, [.null, .null, .null, .int 0, .int 0, .int 0]))]) 0 gw_152 gw_81 gw_6 gw_82 rfl hd_X7_init hC hw (c_X7_init γ l q_57) ⟨by decide, by decide⟩ ⟨by decide, by decide⟩ hl.1 rfl rfl (Nat.le_of_ble_eq_true rfl) [1] [0] rfl rfl rfl rfl (by decide) dX3_init_9 (fun r w1 H locs hq hw => ?_)
  obtain ⟨h_l_58, h_c_59, h_g_60, h_r_61, h_k_62, h_b_63, gh_l_64, gh_c_65, gh_g_66, gh_r_67, gh_k_68, gh_b_69, rfl, rfl, g_70, g_71, g_72, g_73, g_74, g_75⟩ := hq
  have hw : kW γ A [(h, .inr (3, [.null, .null, .null, .int 0, .int 0, .int 0])), (q_57, .inr (7, [.ref h_l_58, .ref h_c_59, .ref h_g_60, .ref h_r_61, .ref h_k_62, .ref h_b_63, .int 0, .int 0, .int 0])), (h_l_58, .inl (γ.2.1 0, 5, .inl gh_l_64)), (h_c_59, .inl (γ.2.1 0, 5, .inl gh_c_65)), (h_g_60, .inl (γ.2.1 0, 5, .inl gh_g_66)), (h_r_61, .inl (γ.2.1 1, 5, .inr (.inl gh_r_67))), (h_k_62, .inl (γ.2.1 0, 40, .inl gh_k_68)), (h_b_63, .inl (γ.2.1 0, 8, .inl gh_b_69))] s H locs := hw
  refine W.eq (g2 := F0 m 12 ls [.ref q_57, .ref h]) rfl ?_
  refine W.widen (k := 7) (n := 77) (by decide) (by decide) ?_
  refine fs_RX3_12 hC hw hin 0 rfl rfl rfl (Nat.le_of_ble_eq_true rfl) dX3_init_12 (fun H locs hw => ?_)
  have hw : kW γ A [(h, .inr (3, [.ref q_57, .null, .null, .int 0, .int 0, .int 0])), (q_57, .inr (7, [.ref h_l_58, .ref h_c_59, .ref h_g_60, .ref h_r_61, .ref h_k_62, .ref h_b_63, .int 0, .int 0, .int 0])), (h_l_58, .inl (γ.2.1 0, 5, .inl gh_l_64)), (h_c_59, .inl (γ.2.1 0, 5, .inl gh_c_65)), (h_g_60, .inl (γ.2.1 0, 5, .inl gh_g_66)), (h_r_61, .inl (γ.2.1 1, 5, .inr (.inl gh_r_67))), (h_k_62, .inl (γ.2.1 0, 40, .inl gh_k_68)), (h_b_63, .inl (γ.2.1 0, 8, .inl gh_b_69))] s H locs := hw
  refine lv_aload_n hx hb dX3_init_15 rfl (lv_at hl 0 rfl) ?_
  refine lv_bipush (v := 40) hx hb dX3_init_16 (by decide) ?_
  refine k_newa (atype := .int) (N' := 40) (a0 := (40, .inl (fun _ => 0))) hC hw rfl gw_132 0 rfl (fun _ h => by cases h) (fun _ => rfl) (by decide) (by decide) (by decide) (by decide) (by decide) dX3_init_18 (fun q_76 H hw => ?_)
  have hw : kW γ A [(h, .inr (3, [.ref q_57, .null, .null, .int 0, .int 0, .int 0])), (q_57, .inr (7, [.ref h_l_58, .ref h_c_59, .ref h_g_60, .ref h_r_61, .ref h_k_62, .ref h_b_63, .int 0, .int 0, .int 0])), (h_l_58, .inl (γ.2.1 0, 5, .inl gh_l_64)), (h_c_59, .inl (γ.2.1 0, 5, .inl gh_c_65)), (h_g_60, .inl (γ.2.1 0, 5, .inl gh_g_66)), (h_r_61, .inl (γ.2.1 1, 5, .inr (.inl gh_r_67))), (h_k_62, .inl (γ.2.1 0, 40, .inl gh_k_68)), (h_b_63, .inl (γ.2.1 0, 8, .inl gh_b_69)), (q_76, .inl (γ.2.1 0, 40, .inl (fun _ => 0)))] s H locs := hw
  refine W.widen (k := 8) (n := 117) (by decide) (by decide) ?_
  refine fs_RX3_18 hC hw hin 0 rfl rfl rfl (Nat.le_of_ble_eq_true rfl) dX3_init_20 (fun H locs hw => ?_)
  have hw : kW γ A [(h, .inr (3, [.ref q_57, .ref q_76, .null, .int 0, .int 0, .int 0])), (q_57, .inr (7, [.ref h_l_58, .ref h_c_59, .ref h_g_60, .ref h_r_61, .ref h_k_62, .ref h_b_63, .int 0, .int 0, .int 0])), (h_l_58, .inl (γ.2.1 0, 5, .inl gh_l_64)), (h_c_59, .inl (γ.2.1 0, 5, .inl gh_c_65)), (h_g_60, .inl (γ.2.1 0, 5, .inl gh_g_66)), (h_r_61, .inl (γ.2.1 1, 5, .inr (.inl gh_r_67))), (h_k_62, .inl (γ.2.1 0, 40, .inl gh_k_68)), (h_b_63, .inl (γ.2.1 0, 8, .inl gh_b_69)), (q_76, .inl (γ.2.1 0, 40, .inl (fun _ => 0)))] s H locs := hw
  refine lv_aload_n hx hb dX3_init_23 rfl (lv_at hl 0 rfl) ?_
  refine lv_bipush (v := 8) hx hb dX3_init_24 (by decide) ?_
  refine k_newa (atype := .int) (N' := 8) (a0 := (8, .inl (fun _ => 0))) hC hw rfl gw_132 0 rfl (fun _ h => by cases h) (fun _ => rfl) (by decide) (by decide) (by decide) (by decide) (by decide) dX3_init_26 (fun q_77 H hw => ?_)
  have hw : kW γ A [(h, .inr (3, [.ref q_57, .ref q_76, .null, .int 0, .int 0, .int 0])), (q_57, .inr (7, [.ref h_l_58, .ref h_c_59, .ref h_g_60, .ref h_r_61, .ref h_k_62, .ref h_b_63, .int 0, .int 0, .int 0])), (h_l_58, .inl (γ.2.1 0, 5, .inl gh_l_64)), (h_c_59, .inl (γ.2.1 0, 5, .inl gh_c_65)), (h_g_60, .inl (γ.2.1 0, 5, .inl gh_g_66)), (h_r_61, .inl (γ.2.1 1, 5, .inr (.inl gh_r_67))), (h_k_62, .inl (γ.2.1 0, 40, .inl gh_k_68)), (h_b_63, .inl (γ.2.1 0, 8, .inl gh_b_69)), (q_76, .inl (γ.2.1 0, 40, .inl (fun _ => 0))), (q_77, .inl (γ.2.1 0, 8, .inl (fun _ => 0)))] s H locs := hw
  refine W.widen (k := 9) (n := 125) (by decide) (by decide) ?_
  refine fs_RX3_22 hC hw hin 0 rfl rfl rfl (Nat.le_of_ble_eq_true rfl) dX3_init_28 (fun H locs hw => ?_)
  have hw : kW γ A [(h, .inr (3, [.ref q_57, .ref q_76, .ref q_77, .int 0, .int 0, .int 0])), (q_57, .inr (7, [.ref h_l_58, .ref h_c_59, .ref h_g_60, .ref h_r_61, .ref h_k_62, .ref h_b_63, .int 0, .int 0, .int 0])), (h_l_58, .inl (γ.2.1 0, 5, .inl gh_l_64)), (h_c_59, .inl (γ.2.1 0, 5, .inl gh_c_65)), (h_g_60, .inl (γ.2.1 0, 5, .inl gh_g_66)), (h_r_61, .inl (γ.2.1 1, 5, .inr (.inl gh_r_67))), (h_k_62, .inl (γ.2.1 0, 40, .inl gh_k_68)), (h_b_63, .inl (γ.2.1 0, 8, .inl gh_b_69)), (q_76, .inl (γ.2.1 0, 40, .inl (fun _ => 0))), (q_77, .inl (γ.2.1 0, 8, .inl (fun _ => 0)))] s H locs := hw
  exact k_vret hC hr hlocks hw [0, 1, 2, 3, 4, 5, 6, 7, 8, 9] rfl rfl ⟨q_57, h_l_58, h_c_59, h_g_60, h_r_61, h_k_62, h_b_63, q_76, q_77, gh_l_64, gh_c_65, gh_g_66, gh_r_67, gh_k_68, gh_b_69, (fun _ => 0), (fun _ => 0), rfl, rfl, g_70, g_71, g_72, g_73, g_74, g_75⟩ (by decide) (by decide) dX3_init_31

set_option maxHeartbeats 4000000 in
set_option maxRecDepth 100000 in
theorem c_X3_clear (γ : kΓ) (l : Launch) (h : Nat) (hs : Nat) (hs_l : Nat) (hs_c : Nat) (hs_g : Nat) (hs_r : Nat) (hs_k : Nat) (hs_b : Nat) (hy : Nat) (hq : Nat) (fhs_l : Nat → Int32) (fhs_c : Nat → Int32) (fhs_g : Nat → Int32) (fhs_r : Nat → Int64) (fhs_k : Nat → Int32) (fhs_b : Nat → Int32) (fhy : Nat → Int32) (fhq : Nat → Int32) (u3 : Int32) (u4 : Int32) (u5 : Int32) (y6 : Int32) (y7 : Int32) (y8 : Int32) : kM γ l yX3_clear cX3_clear 1 none ({ frames := 2, cells := 0, slots := 0, locals := 44 } : Room) [.ref h] [(h, .inr (3, [.ref hs, .ref hy, .ref hq, .int u3, .int u4, .int u5])), (hs, .inr (7, [.ref hs_l, .ref hs_c, .ref hs_g, .ref hs_r, .ref hs_k, .ref hs_b, .int y6, .int y7, .int y8])), (hs_l, .inl (γ.2.1 0, 5, .inl fhs_l)), (hs_c, .inl (γ.2.1 0, 5, .inl fhs_c)), (hs_g, .inl (γ.2.1 0, 5, .inl fhs_g)), (hs_r, .inl (γ.2.1 1, 5, .inr (.inl fhs_r))), (hs_k, .inl (γ.2.1 0, 40, .inl fhs_k)), (hs_b, .inl (γ.2.1 0, 8, .inl fhs_b)), (hy, .inl (γ.2.1 0, 40, .inl fhy)), (hq, .inl (γ.2.1 0, 8, .inl fhq))] (fun r w1 => ∃ (ghs_l : Nat → Int32), ∃ (ghs_c : Nat → Int32), ∃ (ghs_g : Nat → Int32), ∃ (ghs_r : Nat → Int64), ∃ (ghs_k : Nat → Int32), ∃ (ghs_b : Nat → Int32), r = none ∧ w1 = [(h, .inr (3, [.ref hs, .ref hy, .ref hq, .int 0, .int 0, .int u5])), (hs, .inr (7, [.ref hs_l, .ref hs_c, .ref hs_g, .ref hs_r, .ref hs_k, .ref hs_b, .int 0, .int 0, .int 0])), (hs_l, .inl (γ.2.1 0, 5, .inl ghs_l)), (hs_c, .inl (γ.2.1 0, 5, .inl ghs_c)), (hs_g, .inl (γ.2.1 0, 5, .inl ghs_g)), (hs_r, .inl (γ.2.1 1, 5, .inr (.inl ghs_r))), (hs_k, .inl (γ.2.1 0, 40, .inl ghs_k)), (hs_b, .inl (γ.2.1 0, 8, .inl ghs_b)), (hy, .inl (γ.2.1 0, 40, .inl fhy)), (hq, .inl (γ.2.1 0, 8, .inl fhq))] ∧ (∀ j, j < 5 → ghs_l j = (-1)) ∧ (∀ j, j < 5 → ghs_c j = 0) ∧ (∀ j, j < 5 → ghs_g j = 0) ∧ (∀ j, j < 5 → ghs_r j = 0) ∧ (∀ j, j < 40 → ghs_k j = 0) ∧ (∀ j, j < 8 → ghs_b j = 0)) := by
  refine k_ofW (by decide) (Nat.le_of_ble_eq_true rfl) ?_
  intro p e s m below meth c A ls hC hr hlocks hname hw hl
  have hx := hC.1
  have hb := hC.2.1
  have hl : lv_has ls 1 [(0, .ref h)] := hl
  refine lv_aload_n hx hb dX3_clear_0 rfl (lv_at hl 0 rfl) ?_
  refine fg_RX3_12 hC hw 0 rfl rfl dX3_clear_1 ?_
  refine k_V (wr := [(h, .inr (3, [.ref hs, .ref hy, .ref hq, .int u3, .int u4, .int u5])), (hy, .inl (γ.2.1 0, 40, .inl fhy)), (hq, .inl (γ.2.1 0, 8, .inl fhq))]) 0 gw_655 gw_85 gw_86 gw_6 gw_87 hd_X7_clear hC hw (c_X7_clear γ l hs hs_l hs_c hs_g hs_r hs_k hs_b fhs_l fhs_c fhs_g fhs_r fhs_k fhs_b y6 y7 y8) ⟨by decide, by decide⟩ ⟨by decide, by decide⟩ hl.1 rfl 1 rfl rfl rfl (Nat.le_of_ble_eq_true rfl) [1, 2, 3, 4, 5, 6, 7] [0, 8, 9] rfl rfl rfl rfl (by decide) dX3_clear_4 (fun r w1 H locs hq hw => ?_)
  obtain ⟨gh_l_78, gh_c_79, gh_g_80, gh_r_81, gh_k_82, gh_b_83, rfl, rfl, g_84, g_85, g_86, g_87, g_88, g_89⟩ := hq
  have hw : kW γ A [(h, .inr (3, [.ref hs, .ref hy, .ref hq, .int u3, .int u4, .int u5])), (hy, .inl (γ.2.1 0, 40, .inl fhy)), (hq, .inl (γ.2.1 0, 8, .inl fhq)), (hs, .inr (7, [.ref hs_l, .ref hs_c, .ref hs_g, .ref hs_r, .ref hs_k, .ref hs_b, .int 0, .int 0, .int 0])), (hs_l, .inl (γ.2.1 0, 5, .inl gh_l_78)), (hs_c, .inl (γ.2.1 0, 5, .inl gh_c_79)), (hs_g, .inl (γ.2.1 0, 5, .inl gh_g_80)), (hs_r, .inl (γ.2.1 1, 5, .inr (.inl gh_r_81))), (hs_k, .inl (γ.2.1 0, 40, .inl gh_k_82)), (hs_b, .inl (γ.2.1 0, 8, .inl gh_b_83))] s H locs := hw
  refine W.eq (g2 := F0 m 7 ls []) rfl ?_
  refine lv_aload_n hx hb dX3_clear_7 rfl (lv_at hl 0 rfl) ?_
  refine lv_iconst (v := 0) hx hb dX3_clear_8 (by decide) ?_
  refine fs_RX3_28 hC hw 0 rfl rfl rfl (Nat.le_of_ble_eq_true rfl) dX3_clear_9 (fun H locs hw => ?_)
  have hw : kW γ A [(h, .inr (3, [.ref hs, .ref hy, .ref hq, .int 0, .int u4, .int u5])), (hy, .inl (γ.2.1 0, 40, .inl fhy)), (hq, .inl (γ.2.1 0, 8, .inl fhq)), (hs, .inr (7, [.ref hs_l, .ref hs_c, .ref hs_g, .ref hs_r, .ref hs_k, .ref hs_b, .int 0, .int 0, .int 0])), (hs_l, .inl (γ.2.1 0, 5, .inl gh_l_78)), (hs_c, .inl (γ.2.1 0, 5, .inl gh_c_79)), (hs_g, .inl (γ.2.1 0, 5, .inl gh_g_80)), (hs_r, .inl (γ.2.1 1, 5, .inr (.inl gh_r_81))), (hs_k, .inl (γ.2.1 0, 40, .inl gh_k_82)), (hs_b, .inl (γ.2.1 0, 8, .inl gh_b_83))] s H locs := hw
  refine lv_aload_n hx hb dX3_clear_12 rfl (lv_at hl 0 rfl) ?_
  refine lv_iconst (v := 0) hx hb dX3_clear_13 (by decide) ?_
  refine fs_RX3_32 hC hw 0 rfl rfl rfl (Nat.le_of_ble_eq_true rfl) dX3_clear_14 (fun H locs hw => ?_)
  have hw : kW γ A [(h, .inr (3, [.ref hs, .ref hy, .ref hq, .int 0, .int 0, .int u5])), (hy, .inl (γ.2.1 0, 40, .inl fhy)), (hq, .inl (γ.2.1 0, 8, .inl fhq)), (hs, .inr (7, [.ref hs_l, .ref hs_c, .ref hs_g, .ref hs_r, .ref hs_k, .ref hs_b, .int 0, .int 0, .int 0])), (hs_l, .inl (γ.2.1 0, 5, .inl gh_l_78)), (hs_c, .inl (γ.2.1 0, 5, .inl gh_c_79)), (hs_g, .inl (γ.2.1 0, 5, .inl gh_g_80)), (hs_r, .inl (γ.2.1 1, 5, .inr (.inl gh_r_81))), (hs_k, .inl (γ.2.1 0, 40, .inl gh_k_82)), (hs_b, .inl (γ.2.1 0, 8, .inl gh_b_83))] s H locs := hw
  exact k_vret hC hr hlocks hw [0, 3, 4, 5, 6, 7, 8, 9, 1, 2] rfl rfl ⟨gh_l_78, gh_c_79, gh_g_80, gh_r_81, gh_k_82, gh_b_83, rfl, rfl, g_84, g_85, g_86, g_87, g_88, g_89⟩ (by decide) (by decide) dX3_clear_17

set_option maxHeartbeats 4000000 in
set_option maxRecDepth 100000 in
theorem c_X3_copy (γ : kΓ) (l : Launch) (h : Nat) (hs : Nat) (hs_l : Nat) (hs_c : Nat) (hs_g : Nat) (hs_r : Nat) (hs_k : Nat) (hs_b : Nat) (hy : Nat) (hq : Nat) (fhs_l : Nat → Int32) (fhs_c : Nat → Int32) (fhs_g : Nat → Int32) (fhs_r : Nat → Int64) (fhs_k : Nat → Int32) (fhs_b : Nat → Int32) (fhy : Nat → Int32) (fhq : Nat → Int32) (u3 : Int32) (u4 : Int32) (u5 : Int32) (y6 : Int32) (y7 : Int32) (y8 : Int32) (o : Nat) (os : Nat) (os_l : Nat) (os_c : Nat) (os_g : Nat) (os_r : Nat) (os_k : Nat) (os_b : Nat) (oy : Nat) (oq : Nat) (fos_l : Nat → Int32) (fos_c : Nat → Int32) (fos_g : Nat → Int32) (fos_r : Nat → Int64) (fos_k : Nat → Int32) (fos_b : Nat → Int32) (foy : Nat → Int32) (foq : Nat → Int32) (v3 : Int32) (v4 : Int32) (v5 : Int32) (z6 : Int32) (z7 : Int32) (z8 : Int32) : kM γ l yX3_copy cX3_copy 2 none ({ frames := 2, cells := 0, slots := 0, locals := 101 } : Room) [.ref h, .ref o] [(h, .inr (3, [.ref hs, .ref hy, .ref hq, .int u3, .int u4, .int u5])), (hs, .inr (7, [.ref hs_l, .ref hs_c, .ref hs_g, .ref hs_r, .ref hs_k, .ref hs_b, .int y6, .int y7, .int y8])), (hs_l, .inl (γ.2.1 0, 5, .inl fhs_l)), (hs_c, .inl (γ.2.1 0, 5, .inl fhs_c)), (hs_g, .inl (γ.2.1 0, 5, .inl fhs_g)), (hs_r, .inl (γ.2.1 1, 5, .inr (.inl fhs_r))), (hs_k, .inl (γ.2.1 0, 40, .inl fhs_k)), (hs_b, .inl (γ.2.1 0, 8, .inl fhs_b)), (hy, .inl (γ.2.1 0, 40, .inl fhy)), (hq, .inl (γ.2.1 0, 8, .inl fhq)), (o, .inr (3, [.ref os, .ref oy, .ref oq, .int v3, .int v4, .int v5])), (os, .inr (7, [.ref os_l, .ref os_c, .ref os_g, .ref os_r, .ref os_k, .ref os_b, .int z6, .int z7, .int z8])), (os_l, .inl (γ.2.1 0, 5, .inl fos_l)), (os_c, .inl (γ.2.1 0, 5, .inl fos_c)), (os_g, .inl (γ.2.1 0, 5, .inl fos_g)), (os_r, .inl (γ.2.1 1, 5, .inr (.inl fos_r))), (os_k, .inl (γ.2.1 0, 40, .inl fos_k)), (os_b, .inl (γ.2.1 0, 8, .inl fos_b)), (oy, .inl (γ.2.1 0, 40, .inl foy)), (oq, .inl (γ.2.1 0, 8, .inl foq))] (fun r w1 => ∃ (ghs_l : Nat → Int32), ∃ (ghs_c : Nat → Int32), ∃ (ghs_g : Nat → Int32), ∃ (ghs_r : Nat → Int64), ∃ (ghs_k : Nat → Int32), ∃ (ghs_b : Nat → Int32), ∃ (ghy : Nat → Int32), ∃ (ghq : Nat → Int32), r = none ∧ w1 = [(h, .inr (3, [.ref hs, .ref hy, .ref hq, .int v3, .int v4, .int u5])), (hs, .inr (7, [.ref hs_l, .ref hs_c, .ref hs_g, .ref hs_r, .ref hs_k, .ref hs_b, .int z6, .int z7, .int z8])), (hs_l, .inl (γ.2.1 0, 5, .inl ghs_l)), (hs_c, .inl (γ.2.1 0, 5, .inl ghs_c)), (hs_g, .inl (γ.2.1 0, 5, .inl ghs_g)), (hs_r, .inl (γ.2.1 1, 5, .inr (.inl ghs_r))), (hs_k, .inl (γ.2.1 0, 40, .inl ghs_k)), (hs_b, .inl (γ.2.1 0, 8, .inl ghs_b)), (hy, .inl (γ.2.1 0, 40, .inl ghy)), (hq, .inl (γ.2.1 0, 8, .inl ghq)), (o, .inr (3, [.ref os, .ref oy, .ref oq, .int v3, .int v4, .int v5])), (os, .inr (7, [.ref os_l, .ref os_c, .ref os_g, .ref os_r, .ref os_k, .ref os_b, .int z6, .int z7, .int z8])), (os_l, .inl (γ.2.1 0, 5, .inl fos_l)), (os_c, .inl (γ.2.1 0, 5, .inl fos_c)), (os_g, .inl (γ.2.1 0, 5, .inl fos_g)), (os_r, .inl (γ.2.1 1, 5, .inr (.inl fos_r))), (os_k, .inl (γ.2.1 0, 40, .inl fos_k)), (os_b, .inl (γ.2.1 0, 8, .inl fos_b)), (oy, .inl (γ.2.1 0, 40, .inl foy)), (oq, .inl (γ.2.1 0, 8, .inl foq))]) := by
  refine k_ofW (by decide) (Nat.le_of_ble_eq_true rfl) ?_
  intro p e s m below meth c A ls hC hr hlocks hname hw hl
  have hx := hC.1
  have hb := hC.2.1
  have hl : lv_has ls 2 [(0, .ref h), (1, .ref o)] := hl
  refine lv_aload_n hx hb dX3_copy_0 rfl (lv_at hl 0 rfl) ?_
  refine fg_RX3_12 hC hw 0 rfl rfl dX3_copy_1 ?_
  refine lv_aload_n hx hb dX3_copy_4 rfl (lv_at hl 1 rfl) ?_
  refine fg_RX3_12 hC hw 10 rfl rfl dX3_copy_5 ?_
  refine k_V (wr := [(h, .inr (3, [.ref hs, .ref hy, .ref hq, .int u3, .int u4, .int u5])), (hy, .inl (γ.2.1 0, 40, .inl fhy)), (hq, .inl (γ.2.1 0, 8, .inl fhq)), (o, .inr (3, [.ref os, .ref oy, .ref oq, .int v3, .int v4, .int v5])), (oy, .inl (γ.2.1 0, 40, .inl foy)), (oq, .inl (γ.2.1 0, 8, .inl foq))]) 1 gw_855 gw_761 gw_762 gw_6 gw_763 hd_X7_copy hC hw (c_X7_copy γ l hs hs_l hs_c hs_g hs_r hs_k hs_b fhs_l fhs_c fhs_g fhs_r fhs_k fhs_b y6 y7 y8 os os_l os_c os_g os_r os_k os_b fos_l fos_c fos_g fos_r fos_k fos_b z6 z7 z8) ⟨by decide, by decide⟩ ⟨by decide, by decide⟩ hl.1 rfl 1 rfl rfl rfl (Nat.le_of_ble_eq_true rfl) [1, 2, 3, 4, 5, 6, 7, 11, 12, 13, 14, 15, 16, 17] [0, 8, 9, 10, 18, 19] rfl rfl rfl rfl (by decide) dX3_copy_8 (fun r w1 H locs hq hw => ?_)
  obtain ⟨gh_l_90, gh_c_91, gh_g_92, gh_r_93, gh_k_94, gh_b_95, rfl, rfl, g_96, g_97, g_98, g_99, g_100, g_101⟩ := hq
  have hw : kW γ A [(h, .inr (3, [.ref hs, .ref hy, .ref hq, .int u3, .int u4, .int u5])), (hy, .inl (γ.2.1 0, 40, .inl fhy)), (hq, .inl (γ.2.1 0, 8, .inl fhq)), (o, .inr (3, [.ref os, .ref oy, .ref oq, .int v3, .int v4, .int v5])), (oy, .inl (γ.2.1 0, 40, .inl foy)), (oq, .inl (γ.2.1 0, 8, .inl foq)), (hs, .inr (7, [.ref hs_l, .ref hs_c, .ref hs_g, .ref hs_r, .ref hs_k, .ref hs_b, .int z6, .int z7, .int z8])), (hs_l, .inl (γ.2.1 0, 5, .inl gh_l_90)), (hs_c, .inl (γ.2.1 0, 5, .inl gh_c_91)), (hs_g, .inl (γ.2.1 0, 5, .inl gh_g_92)), (hs_r, .inl (γ.2.1 1, 5, .inr (.inl gh_r_93))), (hs_k, .inl (γ.2.1 0, 40, .inl gh_k_94)), (hs_b, .inl (γ.2.1 0, 8, .inl gh_b_95)), (os, .inr (7, [.ref os_l, .ref os_c, .ref os_g, .ref os_r, .ref os_k, .ref os_b, .int z6, .int z7, .int z8])), (os_l, .inl (γ.2.1 0, 5, .inl fos_l)), (os_c, .inl (γ.2.1 0, 5, .inl fos_c)), (os_g, .inl (γ.2.1 0, 5, .inl fos_g)), (os_r, .inl (γ.2.1 1, 5, .inr (.inl fos_r))), (os_k, .inl (γ.2.1 0, 40, .inl fos_k)), (os_b, .inl (γ.2.1 0, 8, .inl fos_b))] s H locs := hw
  refine W.eq (g2 := F0 m 11 ls []) rfl ?_
  refine lv_aload_n hx hb dX3_copy_11 rfl (lv_at hl 1 rfl) ?_
  refine fg_RX3_18 hC hw 3 rfl rfl dX3_copy_12 ?_
  refine lv_iconst (v := 0) hx hb dX3_copy_15 (by decide) ?_
  refine lv_aload_n hx hb dX3_copy_16 rfl (lv_at hl 0 rfl) ?_
  refine fg_RX3_18 hC hw 0 rfl rfl dX3_copy_17 ?_
  refine lv_iconst (v := 0) hx hb dX3_copy_20 (by decide) ?_
  refine lv_bipush (v := 40) hx hb dX3_copy_21 (by decide) ?_
  refine k_copyi hC hw gw_856 hl.1 4 1 rfl rfl (by decide) (by decide) (by decide) (by decide) (by decide) (by decide) (by decide) dX3_copy_23 (fun H locs hw => ?_)
  obtain ⟨f_102, ef_102⟩ : ∃ g, g = va_cpy foy fhy (0 : Int32).toNatClampNeg (0 : Int32).toNatClampNeg (40 : Int32).toNatClampNeg := ⟨_, rfl⟩
  have hw : kW γ A [(h, .inr (3, [.ref hs, .ref hy, .ref hq, .int u3, .int u4, .int u5])), (hy, .inl (γ.2.1 0, 40, .inl f_102)), (hq, .inl (γ.2.1 0, 8, .inl fhq)), (o, .inr (3, [.ref os, .ref oy, .ref oq, .int v3, .int v4, .int v5])), (oy, .inl (γ.2.1 0, 40, .inl foy)), (oq, .inl (γ.2.1 0, 8, .inl foq)), (hs, .inr (7, [.ref hs_l, .ref hs_c, .ref hs_g, .ref hs_r, .ref hs_k, .ref hs_b, .int z6, .int z7, .int z8])), (hs_l, .inl (γ.2.1 0, 5, .inl gh_l_90)), (hs_c, .inl (γ.2.1 0, 5, .inl gh_c_91)), (hs_g, .inl (γ.2.1 0, 5, .inl gh_g_92)), (hs_r, .inl (γ.2.1 1, 5, .inr (.inl gh_r_93))), (hs_k, .inl (γ.2.1 0, 40, .inl gh_k_94)), (hs_b, .inl (γ.2.1 0, 8, .inl gh_b_95)), (os, .inr (7, [.ref os_l, .ref os_c, .ref os_g, .ref os_r, .ref os_k, .ref os_b, .int z6, .int z7, .int z8])), (os_l, .inl (γ.2.1 0, 5, .inl fos_l)), (os_c, .inl (γ.2.1 0, 5, .inl fos_c)), (os_g, .inl (γ.2.1 0, 5, .inl fos_g)), (os_r, .inl (γ.2.1 1, 5, .inr (.inl fos_r))), (os_k, .inl (γ.2.1 0, 40, .inl fos_k)), (os_b, .inl (γ.2.1 0, 8, .inl fos_b))] s H locs := by rw [ef_102]; exact hw
  refine W.eq (g2 := F0 m 26 ls []) rfl ?_
  refine lv_aload_n hx hb dX3_copy_26 rfl (lv_at hl 1 rfl) ?_
  refine fg_RX3_22 hC hw 3 rfl rfl dX3_copy_27 ?_
  refine lv_iconst (v := 0) hx hb dX3_copy_30 (by decide) ?_
  refine lv_aload_n hx hb dX3_copy_31 rfl (lv_at hl 0 rfl) ?_
  refine fg_RX3_22 hC hw 0 rfl rfl dX3_copy_32 ?_
  refine lv_iconst (v := 0) hx hb dX3_copy_35 (by decide) ?_
  refine lv_bipush (v := 8) hx hb dX3_copy_36 (by decide) ?_
  refine k_copyi hC hw gw_856 hl.1 5 2 rfl rfl (by decide) (by decide) (by decide) (by decide) (by decide) (by decide) (by decide) dX3_copy_38 (fun H locs hw => ?_)
  obtain ⟨f_103, ef_103⟩ : ∃ g, g = va_cpy foq fhq (0 : Int32).toNatClampNeg (0 : Int32).toNatClampNeg (8 : Int32).toNatClampNeg := ⟨_, rfl⟩
  have hw : kW γ A [(h, .inr (3, [.ref hs, .ref hy, .ref hq, .int u3, .int u4, .int u5])), (hy, .inl (γ.2.1 0, 40, .inl f_102)), (hq, .inl (γ.2.1 0, 8, .inl f_103)), (o, .inr (3, [.ref os, .ref oy, .ref oq, .int v3, .int v4, .int v5])), (oy, .inl (γ.2.1 0, 40, .inl foy)), (oq, .inl (γ.2.1 0, 8, .inl foq)), (hs, .inr (7, [.ref hs_l, .ref hs_c, .ref hs_g, .ref hs_r, .ref hs_k, .ref hs_b, .int z6, .int z7, .int z8])), (hs_l, .inl (γ.2.1 0, 5, .inl gh_l_90)), (hs_c, .inl (γ.2.1 0, 5, .inl gh_c_91)), (hs_g, .inl (γ.2.1 0, 5, .inl gh_g_92)), (hs_r, .inl (γ.2.1 1, 5, .inr (.inl gh_r_93))), (hs_k, .inl (γ.2.1 0, 40, .inl gh_k_94)), (hs_b, .inl (γ.2.1 0, 8, .inl gh_b_95)), (os, .inr (7, [.ref os_l, .ref os_c, .ref os_g, .ref os_r, .ref os_k, .ref os_b, .int z6, .int z7, .int z8])), (os_l, .inl (γ.2.1 0, 5, .inl fos_l)), (os_c, .inl (γ.2.1 0, 5, .inl fos_c)), (os_g, .inl (γ.2.1 0, 5, .inl fos_g)), (os_r, .inl (γ.2.1 1, 5, .inr (.inl fos_r))), (os_k, .inl (γ.2.1 0, 40, .inl fos_k)), (os_b, .inl (γ.2.1 0, 8, .inl fos_b))] s H locs := by rw [ef_103]; exact hw
  refine W.eq (g2 := F0 m 41 ls []) rfl ?_
  refine lv_aload_n hx hb dX3_copy_41 rfl (lv_at hl 0 rfl) ?_
  refine lv_aload_n hx hb dX3_copy_42 rfl (lv_at hl 1 rfl) ?_
  refine fg_RX3_28 hC hw 3 rfl rfl dX3_copy_43 ?_
  refine fs_RX3_28 hC hw 0 rfl rfl rfl (Nat.le_of_ble_eq_true rfl) dX3_copy_46 (fun H locs hw => ?_)
  have hw : kW γ A [(h, .inr (3, [.ref hs, .ref hy, .ref hq, .int v3, .int u4, .int u5])), (hy, .inl (γ.2.1 0, 40, .inl f_102)), (hq, .inl (γ.2.1 0, 8, .inl f_103)), (o, .inr (3, [.ref os, .ref oy, .ref oq, .int v3, .int v4, .int v5])), (oy, .inl (γ.2.1 0, 40, .inl foy)), (oq, .inl (γ.2.1 0, 8, .inl foq)), (hs, .inr (7, [.ref hs_l, .ref hs_c, .ref hs_g, .ref hs_r, .ref hs_k, .ref hs_b, .int z6, .int z7, .int z8])), (hs_l, .inl (γ.2.1 0, 5, .inl gh_l_90)), (hs_c, .inl (γ.2.1 0, 5, .inl gh_c_91)), (hs_g, .inl (γ.2.1 0, 5, .inl gh_g_92)), (hs_r, .inl (γ.2.1 1, 5, .inr (.inl gh_r_93))), (hs_k, .inl (γ.2.1 0, 40, .inl gh_k_94)), (hs_b, .inl (γ.2.1 0, 8, .inl gh_b_95)), (os, .inr (7, [.ref os_l, .ref os_c, .ref os_g, .ref os_r, .ref os_k, .ref os_b, .int z6, .int z7, .int z8])), (os_l, .inl (γ.2.1 0, 5, .inl fos_l)), (os_c, .inl (γ.2.1 0, 5, .inl fos_c)), (os_g, .inl (γ.2.1 0, 5, .inl fos_g)), (os_r, .inl (γ.2.1 1, 5, .inr (.inl fos_r))), (os_k, .inl (γ.2.1 0, 40, .inl fos_k)), (os_b, .inl (γ.2.1 0, 8, .inl fos_b))] s H locs := hw
  refine lv_aload_n hx hb dX3_copy_49 rfl (lv_at hl 0 rfl) ?_
  refine lv_aload_n hx hb dX3_copy_50 rfl (lv_at hl 1 rfl) ?_
  refine fg_RX3_32 hC hw 3 rfl rfl dX3_copy_51 ?_
  refine fs_RX3_32 hC hw 0 rfl rfl rfl (Nat.le_of_ble_eq_true rfl) dX3_copy_54 (fun H locs hw => ?_)
  have hw : kW γ A [(h, .inr (3, [.ref hs, .ref hy, .ref hq, .int v3, .int v4, .int u5])), (hy, .inl (γ.2.1 0, 40, .inl f_102)), (hq, .inl (γ.2.1 0, 8, .inl f_103)), (o, .inr (3, [.ref os, .ref oy, .ref oq, .int v3, .int v4, .int v5])), (oy, .inl (γ.2.1 0, 40, .inl foy)), (oq, .inl (γ.2.1 0, 8, .inl foq)), (hs, .inr (7, [.ref hs_l, .ref hs_c, .ref hs_g, .ref hs_r, .ref hs_k, .ref hs_b, .int z6, .int z7, .int z8])), (hs_l, .inl (γ.2.1 0, 5, .inl gh_l_90)), (hs_c, .inl (γ.2.1 0, 5, .inl gh_c_91)), (hs_g, .inl (γ.2.1 0, 5, .inl gh_g_92)), (hs_r, .inl (γ.2.1 1, 5, .inr (.inl gh_r_93))), (hs_k, .inl (γ.2.1 0, 40, .inl gh_k_94)), (hs_b, .inl (γ.2.1 0, 8, .inl gh_b_95)), (os, .inr (7, [.ref os_l, .ref os_c, .ref os_g, .ref os_r, .ref os_k, .ref os_b, .int z6, .int z7, .int z8])), (os_l, .inl (γ.2.1 0, 5, .inl fos_l)), (os_c, .inl (γ.2.1 0, 5, .inl fos_c)), (os_g, .inl (γ.2.1 0, 5, .inl fos_g)), (os_r, .inl (γ.2.1 1, 5, .inr (.inl fos_r))), (os_k, .inl (γ.2.1 0, 40, .inl fos_k)), (os_b, .inl (γ.2.1 0, 8, .inl fos_b))] s H locs := hw
  exact k_vret hC hr hlocks hw [0, 6, 7, 8, 9, 10, 11, 12, 1, 2, 3, 13, 14, 15, 16, 17, 18, 19, 4, 5] rfl rfl ⟨gh_l_90, gh_c_91, gh_g_92, gh_r_93, gh_k_94, gh_b_95, f_102, f_103, rfl, rfl⟩ (by decide) (by decide) dX3_copy_57


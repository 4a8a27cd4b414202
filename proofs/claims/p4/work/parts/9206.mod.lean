theorem dX12_usual_0 : decode cX12_usual 0 = .ok (.aload_n 0, 1) := by decide +kernel
theorem dX12_usual_1 : decode cX12_usual 1 = .ok (.getfield 13, 3) := by decide +kernel
theorem dX12_usual_4 : decode cX12_usual 4 = .ok (.iconst 5, 1) := by decide +kernel
theorem dX12_usual_5 : decode cX12_usual 5 = .ok (.iload_n 1, 1) := by decide +kernel
theorem dX12_usual_6 : decode cX12_usual 6 = .ok (.imul, 1) := by decide +kernel
theorem dX12_usual_7 : decode cX12_usual 7 = .ok (.iconst 0, 1) := by decide +kernel
theorem dX12_usual_8 : decode cX12_usual 8 = .ok (.iadd, 1) := by decide +kernel
theorem dX12_usual_9 : decode cX12_usual 9 = .ok (.iconst 0, 1) := by decide +kernel
theorem dX12_usual_10 : decode cX12_usual 10 = .ok (.iastore, 1) := by decide +kernel
theorem dX12_usual_11 : decode cX12_usual 11 = .ok (.aload_n 0, 1) := by decide +kernel
theorem dX12_usual_12 : decode cX12_usual 12 = .ok (.getfield 13, 3) := by decide +kernel
theorem dX12_usual_15 : decode cX12_usual 15 = .ok (.iconst 5, 1) := by decide +kernel
theorem dX12_usual_16 : decode cX12_usual 16 = .ok (.iload_n 1, 1) := by decide +kernel
theorem dX12_usual_17 : decode cX12_usual 17 = .ok (.imul, 1) := by decide +kernel
theorem dX12_usual_18 : decode cX12_usual 18 = .ok (.iconst 1, 1) := by decide +kernel
theorem dX12_usual_19 : decode cX12_usual 19 = .ok (.iadd, 1) := by decide +kernel
theorem dX12_usual_20 : decode cX12_usual 20 = .ok (.iconst 0, 1) := by decide +kernel
theorem dX12_usual_21 : decode cX12_usual 21 = .ok (.iastore, 1) := by decide +kernel
theorem dX12_usual_22 : decode cX12_usual 22 = .ok (.aload_n 0, 1) := by decide +kernel
theorem dX12_usual_23 : decode cX12_usual 23 = .ok (.getfield 13, 3) := by decide +kernel
theorem dX12_usual_26 : decode cX12_usual 26 = .ok (.iconst 5, 1) := by decide +kernel
theorem dX12_usual_27 : decode cX12_usual 27 = .ok (.iload_n 1, 1) := by decide +kernel
theorem dX12_usual_28 : decode cX12_usual 28 = .ok (.imul, 1) := by decide +kernel
theorem dX12_usual_29 : decode cX12_usual 29 = .ok (.iconst 2, 1) := by decide +kernel
theorem dX12_usual_30 : decode cX12_usual 30 = .ok (.iadd, 1) := by decide +kernel
theorem dX12_usual_31 : decode cX12_usual 31 = .ok (.bipush 10, 2) := by decide +kernel
theorem dX12_usual_33 : decode cX12_usual 33 = .ok (.iastore, 1) := by decide +kernel
theorem dX12_usual_34 : decode cX12_usual 34 = .ok (.aload_n 0, 1) := by decide +kernel
theorem dX12_usual_35 : decode cX12_usual 35 = .ok (.getfield 13, 3) := by decide +kernel
theorem dX12_usual_38 : decode cX12_usual 38 = .ok (.iconst 5, 1) := by decide +kernel
theorem dX12_usual_39 : decode cX12_usual 39 = .ok (.iload_n 1, 1) := by decide +kernel
theorem dX12_usual_40 : decode cX12_usual 40 = .ok (.imul, 1) := by decide +kernel
theorem dX12_usual_41 : decode cX12_usual 41 = .ok (.iconst 3, 1) := by decide +kernel
theorem dX12_usual_42 : decode cX12_usual 42 = .ok (.iadd, 1) := by decide +kernel
theorem dX12_usual_43 : decode cX12_usual 43 = .ok (.bipush 10, 2) := by decide +kernel
theorem dX12_usual_45 : decode cX12_usual 45 = .ok (.iastore, 1) := by decide +kernel
theorem dX12_usual_46 : decode cX12_usual 46 = .ok (.aload_n 0, 1) := by decide +kernel
theorem dX12_usual_47 : decode cX12_usual 47 = .ok (.getfield 13, 3) := by decide +kernel
theorem dX12_usual_50 : decode cX12_usual 50 = .ok (.iconst 5, 1) := by decide +kernel
theorem dX12_usual_51 : decode cX12_usual 51 = .ok (.iload_n 1, 1) := by decide +kernel
theorem dX12_usual_52 : decode cX12_usual 52 = .ok (.imul, 1) := by decide +kernel
theorem dX12_usual_53 : decode cX12_usual 53 = .ok (.iconst 4, 1) := by decide +kernel
theorem dX12_usual_54 : decode cX12_usual 54 = .ok (.iadd, 1) := by decide +kernel
theorem dX12_usual_55 : decode cX12_usual 55 = .ok (.iconst 3, 1) := by decide +kernel
theorem dX12_usual_56 : decode cX12_usual 56 = .ok (.iastore, 1) := by decide +kernel
theorem dX12_usual_57 : decode cX12_usual 57 = .ok (.return_, 1) := by decide +kernel
set_option maxHeartbeats 4000000 in
set_option maxRecDepth 100000 in
theorem c_X12_usual_0 (γ : kΓ) (l : Launch) (z : Nat) (z2 : Nat) (z10 : Nat) (z11 : Nat) (z12 : Nat) (z13 : Nat) (z14 : Nat) (z15 : Nat) (z16 : Nat) (z17 : Nat) (z18 : Nat) (z19 : Nat) (z22 : Nat) (z23 : Nat) (z24 : Nat) (z25 : Nat) (z26 : Nat) (z27 : Nat) (z28 : Nat) (z29 : Nat) (z30 : Nat) (z31 : Nat) (z32 : Nat) (z33 : Nat) (z36 : Nat) (z37 : Nat) (z38 : Nat) (z39 : Nat) (z40 : Nat) (z41 : Nat) (z42 : Nat) (z43 : Nat) (z44 : Nat) (z45 : Nat) (z46 : Nat) (z47 : Nat) (z48 : Nat) (z55 : Nat) (z56 : Nat) (z59 : Nat) (z60 : Nat) (z61 : Nat) (n0 : Int32) (n1 : Int32) (n3 : Int32) (n4 : Int32) (n5 : Int32) (n6 : Int32) (n7 : Int64) (n8 : Int32) (n9 : Int32) (n20 : Int32) (n21 : Int32) (n34 : Int32) (n35 : Int64) (n49 : Int32) (n50 : Int32) (n51 : Int32) (n52 : Int32) (n53 : Int32) (n54 : Int32) (n57 : Int32) (n58 : Int32) (n62 : Int32) (n63 : Int64) : kM γ l yX12_usual cX12_usual 2 none ({ frames := 0, cells := 0, slots := 0, locals := 0 } : Room) [.ref z, .int 0] [(z, .inr (11, [.int n0, .int n1, .ref z2, .int n3, .int n4, .int n5, .int n6, .long n7, .int n8, .int n9, .ref z10, .ref z11, .ref z12, .ref z13, .ref z14, .ref z15, .ref z16, .ref z17, .ref z18, .ref z19, .int n20, .int n21, .ref z22, .ref z23, .ref z24, .ref z25, .ref z26, .ref z27, .ref z28, .ref z29, .ref z30, .ref z31, .ref z32, .ref z33, .int n34, .long n35, .ref z36, .ref z37, .ref z38, .ref z39, .ref z40, .ref z41, .ref z42, .ref z43, .ref z44, .ref z45, .ref z46, .ref z47, .ref z48, .int n49, .int n50, .int n51, .int n52, .int n53, .int n54, .ref z55, .ref z56, .int n57, .int n58, .ref z59, .ref z60, .ref z61, .int n62, .long n63])), (z10, .inl (γ.2.1 0, 10, .inl (fun _ => 0)))] (fun r w1 => ∃ (gb : Nat → Int32), r = none ∧ w1 = [(z, .inr (11, [.int n0, .int n1, .ref z2, .int n3, .int n4, .int n5, .int n6, .long n7, .int n8, .int n9, .ref z10, .ref z11, .ref z12, .ref z13, .ref z14, .ref z15, .ref z16, .ref z17, .ref z18, .ref z19, .int n20, .int n21, .ref z22, .ref z23, .ref z24, .ref z25, .ref z26, .ref z27, .ref z28, .ref z29, .ref z30, .ref z31, .ref z32, .ref z33, .int n34, .long n35, .ref z36, .ref z37, .ref z38, .ref z39, .ref z40, .ref z41, .ref z42, .ref z43, .ref z44, .ref z45, .ref z46, .ref z47, .ref z48, .int n49, .int n50, .int n51, .int n52, .int n53, .int n54, .ref z55, .ref z56, .int n57, .int n58, .ref z59, .ref z60, .ref z61, .int n62, .long n63])), (z10, .inl (γ.2.1 0, 10, .inl gb))] ∧ (gb 0 = 0) ∧ (gb 1 = 0) ∧ (gb 2 = 10) ∧ (gb 3 = 10) ∧ (gb 4 = 3) ∧ (gb 5 = 0) ∧ (gb 6 = 0) ∧ (gb 7 = 0) ∧ (gb 8 = 0) ∧ (gb 9 = 0)) := by
  refine k_ofW (by decide) (Nat.le_of_ble_eq_true rfl) ?_
  intro p9 e s m below meth c A ls hC hr hlocks hname hw hl
  have hx := hC.1
  have hb := hC.2.1
  have hl : lv_has ls 2 [(0, .ref z), (1, .int 0)] := hl
  refine lv_aload_n hx hb dX12_usual_0 rfl (lv_at hl 0 rfl) ?_
  refine fg_RX12_13 hC hw 0 rfl rfl dX12_usual_1 ?_
  refine lv_iconst (v := 5) hx hb dX12_usual_4 (by decide) ?_
  refine lv_iload_n hx hb dX12_usual_5 rfl (lv_at hl 1 rfl) ?_
  refine lv_imul hx hb dX12_usual_6 ?_
  refine lv_topi (fun x_92 ex_92 => ?_)
  obtain rfl : x_92 = 0 := ex_92.trans (by decide)
  refine lv_iconst (v := 0) hx hb dX12_usual_7 (by decide) ?_
  refine lv_iadd hx hb dX12_usual_8 ?_
  refine lv_topi (fun x_93 ex_93 => ?_)
  obtain rfl : x_93 = 0 := ex_93.trans (by decide)
  refine lv_iconst (v := 0) hx hb dX12_usual_9 (by decide) ?_
  refine k_iast hC hw 1 rfl (k_in0 (by decide)) dX12_usual_10 (fun H locs hw => ?_)
  obtain ⟨f_94, ef_94⟩ : ∃ g, g = upd (fun _ => 0) (0 : Int32).toNatClampNeg 0 := ⟨_, rfl⟩
  have hw : kW γ A [(z, .inr (11, [.int n0, .int n1, .ref z2, .int n3, .int n4, .int n5, .int n6, .long n7, .int n8, .int n9, .ref z10, .ref z11, .ref z12, .ref z13, .ref z14, .ref z15, .ref z16, .ref z17, .ref z18, .ref z19, .int n20, .int n21, .ref z22, .ref z23, .ref z24, .ref z25, .ref z26, .ref z27, .ref z28, .ref z29, .ref z30, .ref z31, .ref z32, .ref z33, .int n34, .long n35, .ref z36, .ref z37, .ref z38, .ref z39, .ref z40, .ref z41, .ref z42, .ref z43, .ref z44, .ref z45, .ref z46, .ref z47, .ref z48, .int n49, .int n50, .int n51, .int n52, .int n53, .int n54, .ref z55, .ref z56, .int n57, .int n58, .ref z59, .ref z60, .ref z61, .int n62, .long n63])), (z10, .inl (γ.2.1 0, 10, .inl f_94))] s H locs := by rw [ef_94]; exact hw
  have h_95 : f_94 0 = 0 := by rw [ef_94]; rfl
  refine lv_aload_n hx hb dX12_usual_11 rfl (lv_at hl 0 rfl) ?_
  refine fg_RX12_13 hC hw 0 rfl rfl dX12_usual_12 ?_
  refine lv_iconst (v := 5) hx hb dX12_usual_15 (by decide) ?_
  refine lv_iload_n hx hb dX12_usual_16 rfl (lv_at hl 1 rfl) ?_
  refine lv_imul hx hb dX12_usual_17 ?_
  refine lv_topi (fun x_96 ex_96 => ?_)
  obtain rfl : x_96 = 0 := ex_96.trans (by decide)
  refine lv_iconst (v := 1) hx hb dX12_usual_18 (by decide) ?_
  refine lv_iadd hx hb dX12_usual_19 ?_
  refine lv_topi (fun x_97 ex_97 => ?_)
  obtain rfl : x_97 = 1 := ex_97.trans (by decide)
  refine lv_iconst (v := 0) hx hb dX12_usual_20 (by decide) ?_
  refine k_iast hC hw 1 rfl (k_in0 (by decide)) dX12_usual_21 (fun H locs hw => ?_)
  obtain ⟨f_98, ef_98⟩ : ∃ g, g = upd f_94 (1 : Int32).toNatClampNeg 0 := ⟨_, rfl⟩
  have hw : kW γ A [(z, .inr (11, [.int n0, .int n1, .ref z2, .int n3, .int n4, .int n5, .int n6, .long n7, .int n8, .int n9, .ref z10, .ref z11, .ref z12, .ref z13, .ref z14, .ref z15, .ref z16, .ref z17, .ref z18, .ref z19, .int n20, .int n21, .ref z22, .ref z23, .ref z24, .ref z25, .ref z26, .ref z27, .ref z28, .ref z29, .ref z30, .ref z31, .ref z32, .ref z33, .int n34, .long n35, .ref z36, .ref z37, .ref z38, .ref z39, .ref z40, .ref z41, .ref z42, .ref z43, .ref z44, .ref z45, .ref z46, .ref z47, .ref z48, .int n49, .int n50, .int n51, .int n52, .int n53, .int n54, .ref z55, .ref z56, .int n57, .int n58, .ref z59, .ref z60, .ref z61, .int n62, .long n63])), (z10, .inl (γ.2.1 0, 10, .inl f_98))] s H locs := by rw [ef_98]; exact hw
  have h_99 : f_98 0 = 0 := by rw [ef_98]; exact h_95
  have h_100 : f_98 1 = 0 := by rw [ef_98]; rfl
  refine lv_aload_n hx hb dX12_usual_22 rfl (lv_at hl 0 rfl) ?_
  refine fg_RX12_13 hC hw 0 rfl rfl dX12_usual_23 ?_
  refine lv_iconst (v := 5) hx hb dX12_usual_26 (by decide) ?_
  refine lv_iload_n hx hb dX12_usual_27 rfl (lv_at hl 1 rfl) ?_
  refine lv_imul hx hb dX12_usual_28 ?_
  refine lv_topi (fun x_101 ex_101 => ?_)
  obtain rfl : x_101 = 0 := ex_101.trans (by decide)
  refine lv_iconst (v := 2) hx hb dX12_usual_29 (by decide) ?_
  refine lv_iadd hx hb dX12_usual_30 ?_
  refine lv_topi (fun x_102 ex_102 => ?_)
  obtain rfl : x_102 = 2 := ex_102.trans (by decide)
  refine lv_bipush (v := 10) hx hb dX12_usual_31 (by decide) ?_
  refine k_iast hC hw 1 rfl (k_in0 (by decide)) dX12_usual_33 (fun H locs hw => ?_)
  obtain ⟨f_103, ef_103⟩ : ∃ g, g = upd f_98 (2 : Int32).toNatClampNeg 10 := ⟨_, rfl⟩
  have hw : kW γ A [(z, .inr (11, [.int n0, .int n1, .ref z2, .int n3, .int n4, .int n5, .int n6, .long n7, .int n8, .int n9, .ref z10, .ref z11, .ref z12, .ref z13, .ref z14, .ref z15, .ref z16, .ref z17, .ref z18, .ref z19, .int n20, .int n21, .ref z22, .ref z23, .ref z24, .ref z25, .ref z26, .ref z27, .ref z28, .ref z29, .ref z30, .ref z31, .ref z32, .ref z33, .int n34, .long n35, .ref z36, .ref z37, .ref z38, .ref z39, .ref z40, .ref z41, .ref z42, .ref z43, .ref z44, .ref z45, .ref z46, .ref z47, .ref z48, .int n49, .int n50, .int n51, .int n52, .int n53, .int n54, .ref z55, .ref z56, .int n57, .int n58, .ref z59, .ref z60, .ref z61, .int n62, .long n63])), (z10, .inl (γ.2.1 0, 10, .inl f_103))] s H locs := by rw [ef_103]; exact hw
  have h_104 : f_103 0 = 0 := by rw [ef_103]; exact h_99
  have h_105 : f_103 1 = 0 := by rw [ef_103]; exact h_100
  have h_106 : f_103 2 = 10 := by rw [ef_103]; rfl
  refine lv_aload_n hx hb dX12_usual_34 rfl (lv_at hl 0 rfl) ?_
  refine fg_RX12_13 hC hw 0 rfl rfl dX12_usual_35 ?_
  refine lv_iconst (v := 5) hx hb dX12_usual_38 (by decide) ?_
  refine lv_iload_n hx hb dX12_usual_39 rfl (lv_at hl 1 rfl) ?_
  refine lv_imul hx hb dX12_usual_40 ?_
  refine lv_topi (fun x_107 ex_107 => ?_)
  obtain rfl : x_107 = 0 := ex_107.trans (by decide)
  refine lv_iconst (v := 3) hx hb dX12_usual_41 (by decide) ?_
  refine lv_iadd hx hb dX12_usual_42 ?_
  refine lv_topi (fun x_108 ex_108 => ?_)
  obtain rfl : x_108 = 3 := ex_108.trans (by decide)
  refine lv_bipush (v := 10) hx hb dX12_usual_43 (by decide) ?_
  refine k_iast hC hw 1 rfl (k_in0 (by decide)) dX12_usual_45 (fun H locs hw => ?_)
  obtain ⟨f_109, ef_109⟩ : ∃ g, g = upd f_103 (3 : Int32).toNatClampNeg 10 := ⟨_, rfl⟩
  have hw : kW γ A [(z, .inr (11, [.int n0, .int n1, .ref z2, .int n3, .int n4, .int n5, .int n6, .long n7, .int n8, .int n9, .ref z10, .ref z11, .ref z12, .ref z13, .ref z14, .ref z15, .ref z16, .ref z17, .ref z18, .ref z19, .int n20, .int n21, .ref z22, .ref z23, .ref z24, .ref z25, .ref z26, .ref z27, .ref z28, .ref z29, .ref z30, .ref z31, .ref z32, .ref z33, .int n34, .long n35, .ref z36, .ref z37, .ref z38, .ref z39, .ref z40, .ref z41, .ref z42, .ref z43, .ref z44, .ref z45, .ref z46, .ref z47, .ref z48, .int n49, .int n50, .int n51, .int n52, .int n53, .int n54, .ref z55, .ref z56, .int n57, .int n58, .ref z59, .ref z60, .ref z61, .int n62, .long n63])), (z10, .inl (γ.2.1 0, 10, .inl f_109))] s H locs := by rw [ef_109]; exact hw
  have h_110 : f_109 0 = 0 := by rw [ef_109]; exact h_104
  have h_111 : f_109 1 = 0 := by rw [ef_109]; exact h_105
  have h_112 : f_109 2 = 10 := by rw [ef_109]; exact h_106
  have h_113 : f_109 3 = 10 := by rw [ef_109]; rfl
  refine lv_aload_n hx hb dX12_usual_46 rfl (lv_at hl 0 rfl) ?_
  refine fg_RX12_13 hC hw 0 rfl rfl dX12_usual_47 ?_
  refine lv_iconst (v := 5) hx hb dX12_usual_50 (by decide) ?_
  refine lv_iload_n hx hb dX12_usual_51 rfl (lv_at hl 1 rfl) ?_
  refine lv_imul hx hb dX12_usual_52 ?_
  refine lv_topi (fun x_114 ex_114 => ?_)
  obtain rfl : x_114 = 0 := ex_114.trans (by decide)
  refine lv_iconst (v := 4) hx hb dX12_usual_53 (by decide) ?_
  refine lv_iadd hx hb dX12_usual_54 ?_
  refine lv_topi (fun x_115 ex_115 => ?_)
  obtain rfl : x_115 = 4 := ex_115.trans (by decide)
  refine lv_iconst (v := 3) hx hb dX12_usual_55 (by decide) ?_
  refine k_iast hC hw 1 rfl (k_in0 (by decide)) dX12_usual_56 (fun H locs hw => ?_)
  obtain ⟨f_116, ef_116⟩ : ∃ g, g = upd f_109 (4 : Int32).toNatClampNeg 3 := ⟨_, rfl⟩
  have hw : kW γ A [(z, .inr (11, [.int n0, .int n1, .ref z2, .int n3, .int n4, .int n5, .int n6, .long n7, .int n8, .int n9, .ref z10, .ref z11, .ref z12, .ref z13, .ref z14, .ref z15, .ref z16, .ref z17, .ref z18, .ref z19, .int n20, .int n21, .ref z22, .ref z23, .ref z24, .ref z25, .ref z26, .ref z27, .ref z28, .ref z29, .ref z30, .ref z31, .ref z32, .ref z33, .int n34, .long n35, .ref z36, .ref z37, .ref z38, .ref z39, .ref z40, .ref z41, .ref z42, .ref z43, .ref z44, .ref z45, .ref z46, .ref z47, .ref z48, .int n49, .int n50, .int n51, .int n52, .int n53, .int n54, .ref z55, .ref z56, .int n57, .int n58, .ref z59, .ref z60, .ref z61, .int n62, .long n63])), (z10, .inl (γ.2.1 0, 10, .inl f_116))] s H locs := by rw [ef_116]; exact hw
  have h_117 : f_116 0 = 0 := by rw [ef_116]; exact h_110
  have h_118 : f_116 1 = 0 := by rw [ef_116]; exact h_111
  have h_119 : f_116 2 = 10 := by rw [ef_116]; exact h_112
  have h_120 : f_116 3 = 10 := by rw [ef_116]; exact h_113
  have h_121 : f_116 4 = 3 := by rw [ef_116]; rfl
  exact k_vret hC hr hlocks hw [0, 1] rfl rfl ⟨f_116, rfl, rfl, h_117, h_118, h_119, h_120, h_121, (by rw [ef_116, ef_109, ef_103, ef_98, ef_94]; rfl), (by rw [ef_116, ef_109, ef_103, ef_98, ef_94]; rfl), (by rw [ef_116, ef_109, ef_103, ef_98, ef_94]; rfl), (by rw [ef_116, ef_109, ef_103, ef_98, ef_94]; rfl), (by rw [ef_116, ef_109, ef_103, ef_98, ef_94]; rfl)⟩ (by decide) (by decide) dX12_usual_57


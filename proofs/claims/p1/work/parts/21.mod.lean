theorem dX12_within_0 : decode cX12_within 0 = .ok (.iload_n 0, 1) := by decide +kernel
theorem dX12_within_1 : decode cX12_within 1 = .ok (.iload_n 1, 1) := by decide +kernel
theorem dX12_within_2 : decode cX12_within 2 = .ok (.if_icmp .lt 12, 3) := by decide +kernel
theorem dX12_within_5 : decode cX12_within 5 = .ok (.iload_n 0, 1) := by decide +kernel
theorem dX12_within_6 : decode cX12_within 6 = .ok (.iload_n 2, 1) := by decide +kernel
theorem dX12_within_7 : decode cX12_within 7 = .ok (.if_icmp .gt 7, 3) := by decide +kernel
theorem dX12_within_10 : decode cX12_within 10 = .ok (.iconst 1, 1) := by decide +kernel
theorem dX12_within_11 : decode cX12_within 11 = .ok (.goto 4, 3) := by decide +kernel
theorem dX12_within_14 : decode cX12_within 14 = .ok (.iconst 0, 1) := by decide +kernel
theorem dX12_within_15 : decode cX12_within 15 = .ok (.ireturn, 1) := by decide +kernel
theorem dX12_usual_0 : decode cX12_usual 0 = .ok (.aload_n 0, 1) := by decide +kernel
theorem dX12_usual_1 : decode cX12_usual 1 = .ok (.getfield 13, 3) := by decide +kernel
theorem dX12_usual_4 : decode cX12_usual 4 = .ok (.iconst 5, 1) := by decide +kernel
theorem dX12_usual_5 : decode cX12_usual 5 = .ok (.iload_n 1, 1) := by decide +kernel
theorem dX12_usual_6 : decode cX12_usual 6 = .ok (.imul, 1) := by decide +kernel
theorem dX12_usual_7 : decode cX12_usual 7 = .ok (.iconst 0, 1) := by decide +kernel
theorem dX12_usual_8 : decode cX12_usual 8 = .ok (.iadd, 1) := by decide +kernel
theorem dX12_usual_9 : decode cX12_usual 9 = .ok (.iconst 0, 1) := by decide +kernel
theorem dX12_usual_10 : decode cX12_usual 10 = .ok (.iastore, 1) := by decide +kernel
theorem dX12_usual_11 : decode cX12_usual 11 = .ok (.aload_n 0, 1) := by decide +kernel
theorem dX12_usual_12 : decode cX12_usual 12 = .ok (.getfield 13, 3) := by decide +kernel
theorem dX12_usual_15 : decode cX12_usual 15 = .ok (.iconst 5, 1) := by decide +kernel
theorem dX12_usual_16 : decode cX12_usual 16 = .ok (.iload_n 1, 1) := by decide +kernel
theorem dX12_usual_17 : decode cX12_usual 17 = .ok (.imul, 1) := by decide +kernel
theorem dX12_usual_18 : decode cX12_usual 18 = .ok (.iconst 1, 1) := by decide +kernel
theorem dX12_usual_19 : decode cX12_usual 19 = .ok (.iadd, 1) := by decide +kernel
theorem dX12_usual_20 : decode cX12_usual 20 = .ok (.iconst 0, 1) := by decide +kernel
theorem dX12_usual_21 : decode cX12_usual 21 = .ok (.iastore, 1) := by decide +kernel
theorem dX12_usual_22 : decode cX12_usual 22 = .ok (.aload_n 0, 1) := by decide +kernel
theorem dX12_usual_23 : decode cX12_usual 23 = .ok (.getfield 13, 3) := by decide +kernel
theorem dX12_usual_26 : decode cX12_usual 26 = .ok (.iconst 5, 1) := by decide +kernel
theorem dX12_usual_27 : decode cX12_usual 27 = .ok (.iload_n 1, 1) := by decide +kernel
theorem dX12_usual_28 : decode cX12_usual 28 = .ok (.imul, 1) := by decide +kernel
theorem dX12_usual_29 : decode cX12_usual 29 = .ok (.iconst 2, 1) := by decide +kernel
theorem dX12_usual_30 : decode cX12_usual 30 = .ok (.iadd, 1) := by decide +kernel
theorem dX12_usual_31 : decode cX12_usual 31 = .ok (.bipush 10, 2) := by decide +kernel
theorem dX12_usual_33 : decode cX12_usual 33 = .ok (.iastore, 1) := by decide +kernel
theorem dX12_usual_34 : decode cX12_usual 34 = .ok (.aload_n 0, 1) := by decide +kernel
theorem dX12_usual_35 : decode cX12_usual 35 = .ok (.getfield 13, 3) := by decide +kernel
theorem dX12_usual_38 : decode cX12_usual 38 = .ok (.iconst 5, 1) := by decide +kernel
theorem dX12_usual_39 : decode cX12_usual 39 = .ok (.iload_n 1, 1) := by decide +kernel
theorem dX12_usual_40 : decode cX12_usual 40 = .ok (.imul, 1) := by decide +kernel
theorem dX12_usual_41 : decode cX12_usual 41 = .ok (.iconst 3, 1) := by decide +kernel
theorem dX12_usual_42 : decode cX12_usual 42 = .ok (.iadd, 1) := by decide +kernel
theorem dX12_usual_43 : decode cX12_usual 43 = .ok (.bipush 10, 2) := by decide +kernel
theorem dX12_usual_45 : decode cX12_usual 45 = .ok (.iastore, 1) := by decide +kernel
theorem dX12_usual_46 : decode cX12_usual 46 = .ok (.aload_n 0, 1) := by decide +kernel
theorem dX12_usual_47 : decode cX12_usual 47 = .ok (.getfield 13, 3) := by decide +kernel
theorem dX12_usual_50 : decode cX12_usual 50 = .ok (.iconst 5, 1) := by decide +kernel
theorem dX12_usual_51 : decode cX12_usual 51 = .ok (.iload_n 1, 1) := by decide +kernel
theorem dX12_usual_52 : decode cX12_usual 52 = .ok (.imul, 1) := by decide +kernel
theorem dX12_usual_53 : decode cX12_usual 53 = .ok (.iconst 4, 1) := by decide +kernel
theorem dX12_usual_54 : decode cX12_usual 54 = .ok (.iadd, 1) := by decide +kernel
theorem dX12_usual_55 : decode cX12_usual 55 = .ok (.iconst 3, 1) := by decide +kernel
theorem dX12_usual_56 : decode cX12_usual 56 = .ok (.iastore, 1) := by decide +kernel
theorem dX12_usual_57 : decode cX12_usual 57 = .ok (.return_, 1) := by decide +kernel
set_option maxHeartbeats 4000000 in
set_option maxRecDepth 100000 in
theorem c_within_t (γ : kΓ) (l : Launch) (v : Int32) (lo : Int32) (hi : Int32) (h1 : ¬ v < lo) (h2 : ¬ hi < v) : kM γ l yX12_within cX12_within 3 ((some .boolean)) ({ frames := 0, cells := 0, slots := 0, locals := 0 } : Room) [.int v, .int lo, .int hi] [] (fun r w1 => r = some (.int 1) ∧ w1 = []) := by
  refine k_ofW (by decide) (Nat.le_of_ble_eq_true rfl) ?_
  intro p e s m below meth c A ls hC hr hlocks hname hw hl
  have hx := hC.1
  have hb := hC.2.1
  have hl : lv_has ls 3 [(0, .int v), (1, .int lo), (2, .int hi)] := hl
  refine lv_iload_n hx hb dX12_within_0 rfl (lv_at hl 0 rfl) ?_
  refine lv_iload_n hx hb dX12_within_1 rfl (lv_at hl 1 rfl) ?_
  refine lv_icmp_lt (tgt := 14) hx hb dX12_within_2 (by decide) (fun h => absurd h h1) (fun _ => ?_)
  refine lv_iload_n hx hb dX12_within_5 rfl (lv_at hl 0 rfl) ?_
  refine lv_iload_n hx hb dX12_within_6 rfl (lv_at hl 2 rfl) ?_
  refine lv_icmp_gt (tgt := 14) hx hb dX12_within_7 (by decide) (fun h => absurd h h2) (fun _ => ?_)
  refine lv_iconst (v := 1) hx hb dX12_within_10 (by decide) ?_
  refine lv_goto (tgt := 15) hx hb dX12_within_11 (by decide) ?_
  exact k_zret hC hr hlocks rfl hw [] rfl rfl ⟨rfl, rfl⟩ (by decide) (by decide) dX12_within_15

set_option maxHeartbeats 4000000 in
set_option maxRecDepth 100000 in
theorem c_within_l (γ : kΓ) (l : Launch) (v : Int32) (lo : Int32) (hi : Int32) (h1 : v < lo) : kM γ l yX12_within cX12_within 3 ((some .boolean)) ({ frames := 0, cells := 0, slots := 0, locals := 0 } : Room) [.int v, .int lo, .int hi] [] (fun r w1 => r = some (.int 0) ∧ w1 = []) := by
  refine k_ofW (by decide) (Nat.le_of_ble_eq_true rfl) ?_
  intro p e s m below meth c A ls hC hr hlocks hname hw hl
  have hx := hC.1
  have hb := hC.2.1
  have hl : lv_has ls 3 [(0, .int v), (1, .int lo), (2, .int hi)] := hl
  refine lv_iload_n hx hb dX12_within_0 rfl (lv_at hl 0 rfl) ?_
  refine lv_iload_n hx hb dX12_within_1 rfl (lv_at hl 1 rfl) ?_
  refine lv_icmp_lt (tgt := 14) hx hb dX12_within_2 (by decide) (fun _ => ?_) (fun h => absurd h1 h)
  refine lv_iconst (v := 0) hx hb dX12_within_14 (by decide) ?_
  exact k_zret hC hr hlocks rfl hw [] rfl rfl ⟨rfl, rfl⟩ (by decide) (by decide) dX12_within_15

set_option maxHeartbeats 4000000 in
set_option maxRecDepth 100000 in
theorem c_within_h (γ : kΓ) (l : Launch) (v : Int32) (lo : Int32) (hi : Int32) (h1 : ¬ v < lo) (h2 : hi < v) : kM γ l yX12_within cX12_within 3 ((some .boolean)) ({ frames := 0, cells := 0, slots := 0, locals := 0 } : Room) [.int v, .int lo, .int hi] [] (fun r w1 => r = some (.int 0) ∧ w1 = []) := by
  refine k_ofW (by decide) (Nat.le_of_ble_eq_true rfl) ?_
  intro p e s m below meth c A ls hC hr hlocks hname hw hl
  have hx := hC.1
  have hb := hC.2.1
  have hl : lv_has ls 3 [(0, .int v), (1, .int lo), (2, .int hi)] := hl
  refine lv_iload_n hx hb dX12_within_0 rfl (lv_at hl 0 rfl) ?_
  refine lv_iload_n hx hb dX12_within_1 rfl (lv_at hl 1 rfl) ?_
  refine lv_icmp_lt (tgt := 14) hx hb dX12_within_2 (by decide) (fun h => absurd h h1) (fun _ => ?_)
  refine lv_iload_n hx hb dX12_within_5 rfl (lv_at hl 0 rfl) ?_
  refine lv_iload_n hx hb dX12_within_6 rfl (lv_at hl 2 rfl) ?_
  refine lv_icmp_gt (tgt := 14) hx hb dX12_within_7 (by decide) (fun _ => ?_) (fun h => absurd h2 h)
  refine lv_iconst (v := 0) hx hb dX12_within_14 (by decide) ?_
  exact k_zret hC hr hlocks rfl hw [] rfl rfl ⟨rfl, rfl⟩ (by decide) (by decide) dX12_within_15

set_option maxHeartbeats 4000000 in
set_option maxRecDepth 100000 in
theorem c_X12_usual_0 (γ : kΓ) (l : Launch) (z : Nat) (z2 : Nat) (z10 : Nat) (z11 : Nat) (z12 : Nat) (z13 : Nat) (z14 : Nat) (z15 : Nat) (z16 : Nat) (z17 : Nat) (z18 : Nat) (z19 : Nat) (z22 : Nat) (z23 : Nat) (z24 : Nat) (z25 : Nat) (z26 : Nat) (z27 : Nat) (z28 : Nat) (z29 : Nat) (z30 : Nat) (z31 : Nat) (z32 : Nat) (z33 : Nat) (z36 : Nat) (z37 : Nat) (z38 : Nat) (z39 : Nat) (z40 : Nat) (z41 : Nat) (z42 : Nat) (z43 : Nat) (z44 : Nat) (z45 : Nat) (z46 : Nat) (z47 : Nat) (z48 : Nat) (z55 : Nat) (z56 : Nat) (z59 : Nat) (z60 : Nat) (z61 : Nat) (n0 : Int32) (n1 : Int32) (n3 : Int32) (n4 : Int32) (n5 : Int32) (n6 : Int32) (n7 : Int64) (n8 : Int32) (n9 : Int32) (n20 : Int32) (n21 : Int32) (n34 : Int32) (n35 : Int64) (n49 : Int32) (n50 : Int32) (n51 : Int32) (n52 : Int32) (n53 : Int32) (n54 : Int32) (n57 : Int32) (n58 : Int32) (n62 : Int32) (n63 : Int64) (fa : Nat → Int32) : kM γ l yX12_usual cX12_usual 2 none ({ frames := 0, cells := 0, slots := 0, locals := 0 } : Room) [.ref z, .int 0] [(z, .inr (11, [.int n0, .int n1, .ref z2, .int n3, .int n4, .int n5, .int n6, .long n7, .int n8, .int n9, .ref z10, .ref z11, .ref z12, .ref z13, .ref z14, .ref z15, .ref z16, .ref z17, .ref z18, .ref z19, .int n20, .int n21, .ref z22, .ref z23, .ref z24, .ref z25, .ref z26, .ref z27, .ref z28, .ref z29, .ref z30, .ref z31, .ref z32, .ref z33, .int n34, .long n35, .ref z36, .ref z37, .ref z38, .ref z39, .ref z40, .ref z41, .ref z42, .ref z43, .ref z44, .ref z45, .ref z46, .ref z47, .ref z48, .int n49, .int n50, .int n51, .int n52, .int n53, .int n54, .ref z55, .ref z56, .int n57, .int n58, .ref z59, .ref z60, .ref z61, .int n62, .long n63])), (z10, .inl (γ.2.1 0, 10, .inl fa))] (fun r w1 => ∃ (gb : Nat → Int32), r = none ∧ w1 = [(z, .inr (11, [.int n0, .int n1, .ref z2, .int n3, .int n4, .int n5, .int n6, .long n7, .int n8, .int n9, .ref z10, .ref z11, .ref z12, .ref z13, .ref z14, .ref z15, .ref z16, .ref z17, .ref z18, .ref z19, .int n20, .int n21, .ref z22, .ref z23, .ref z24, .ref z25, .ref z26, .ref z27, .ref z28, .ref z29, .ref z30, .ref z31, .ref z32, .ref z33, .int n34, .long n35, .ref z36, .ref z37, .ref z38, .ref z39, .ref z40, .ref z41, .ref z42, .ref z43, .ref z44, .ref z45, .ref z46, .ref z47, .ref z48, .int n49, .int n50, .int n51, .int n52, .int n53, .int n54, .ref z55, .ref z56, .int n57, .int n58, .ref z59, .ref z60, .ref z61, .int n62, .long n63])), (z10, .inl (γ.2.1 0, 10, .inl gb))] ∧ (gb 0 = 0) ∧ (gb 1 = 0) ∧ (gb 2 = 10) ∧ (gb 3 = 10) ∧ (gb 4 = 3)) := by
  refine k_ofW (by decide) (Nat.le_of_ble_eq_true rfl) ?_
  intro p e s m below meth c A ls hC hr hlocks hname hw hl
  have hx := hC.1
  have hb := hC.2.1
  have hl : lv_has ls 2 [(0, .ref z), (1, .int 0)] := hl
  refine lv_aload_n hx hb dX12_usual_0 rfl (lv_at hl 0 rfl) ?_
  refine fg_RX12_13 hC hw 0 rfl rfl dX12_usual_1 ?_
  refine lv_iconst (v := 5) hx hb dX12_usual_4 (by decide) ?_
  refine lv_iload_n hx hb dX12_usual_5 rfl (lv_at hl 1 rfl) ?_
  refine lv_imul hx hb dX12_usual_6 ?_
  refine lv_topi (fun x_1049 ex_1049 => ?_)
  obtain rfl : x_1049 = 0 := ex_1049.trans (by decide)
  refine lv_iconst (v := 0) hx hb dX12_usual_7 (by decide) ?_
  refine lv_iadd hx hb dX12_usual_8 ?_
  refine lv_topi (fun x_1050 ex_1050 => ?_)
  obtain rfl : x_1050 = 0 := ex_1050.trans (by decide)
  refine lv_iconst (v := 0) hx hb dX12_usual_9 (by decide) ?_
  refine k_iast hC hw 1 rfl (k_in0 (by decide)) dX12_usual_10 (fun H locs hw => ?_)
  obtain ⟨f_1051, ef_1051⟩ : ∃ g, g = upd fa (0 : Int32).toNatClampNeg 0 := ⟨_, rfl⟩
  have hw : kW γ A [(z, .inr (11, [.int n0, .int n1, .ref z2, .int n3, .int n4, .int n5, .int n6, .long n7, .int n8, .int n9, .ref z10, .ref z11, .ref z12, .ref z13, .ref z14, .ref z15, .ref z16, .ref z17, .ref z18, .ref z19, .int n20, .int n21, .ref z22, .ref z23, .ref z24, .ref z25, .ref z26, .ref z27, .ref z28, .ref z29, .ref z30, .ref z31, .ref z32, .ref z33, .int n34, .long n35, .ref z36, .ref z37, .ref z38, .ref z39, .ref z40, .ref z41, .ref z42, .ref z43, .ref z44, .ref z45, .ref z46, .ref z47, .ref z48, .int n49, .int n50, .int n51, .int n52, .int n53, .int n54, .ref z55, .ref z56, .int n57, .int n58, .ref z59, .ref z60, .ref z61, .int n62, .long n63])), (z10, .inl (γ.2.1 0, 10, .inl f_1051))] s H locs := by rw [ef_1051]; exact hw
  have h_1052 : f_1051 0 = 0 := by rw [ef_1051]; rfl
  refine lv_aload_n hx hb dX12_usual_11 rfl (lv_at hl 0 rfl) ?_
  refine fg_RX12_13 hC hw 0 rfl rfl dX12_usual_12 ?_
  refine lv_iconst (v := 5) hx hb dX12_usual_15 (by decide) ?_
  refine lv_iload_n hx hb dX12_usual_16 rfl (lv_at hl 1 rfl) ?_
  refine lv_imul hx hb dX12_usual_17 ?_
  refine lv_topi (fun x_1053 ex_1053 => ?_)
  obtain rfl : x_1053 = 0 := ex_1053.trans (by decide)
  refine lv_iconst (v := 1) hx hb dX12_usual_18 (by decide) ?_
  refine lv_iadd hx hb dX12_usual_19 ?_
  refine lv_topi (fun x_1054 ex_1054 => ?_)
  obtain rfl : x_1054 = 1 := ex_1054.trans (by decide)
  refine lv_iconst (v := 0) hx hb dX12_usual_20 (by decide) ?_
  refine k_iast hC hw 1 rfl (k_in0 (by decide)) dX12_usual_21 (fun H locs hw => ?_)
  obtain ⟨f_1055, ef_1055⟩ : ∃ g, g = upd f_1051 (1 : Int32).toNatClampNeg 0 := ⟨_, rfl⟩
  have hw : kW γ A [(z, .inr (11, [.int n0, .int n1, .ref z2, .int n3, .int n4, .int n5, .int n6, .long n7, .int n8, .int n9, .ref z10, .ref z11, .ref z12, .ref z13, .ref z14, .ref z15, .ref z16, .ref z17, .ref z18, .ref z19, .int n20, .int n21, .ref z22, .ref z23, .ref z24, .ref z25, .ref z26, .ref z27, .ref z28, .ref z29, .ref z30, .ref z31, .ref z32, .ref z33, .int n34, .long n35, .ref z36, .ref z37, .ref z38, .ref z39, .ref z40, .ref z41, .ref z42, .ref z43, .ref z44, .ref z45, .ref z46, .ref z47, .ref z48, .int n49, .int n50, .int n51, .int n52, .int n53, .int n54, .ref z55, .ref z56, .int n57, .int n58, .ref z59, .ref z60, .ref z61, .int n62, .long n63])), (z10, .inl (γ.2.1 0, 10, .inl f_1055))] s H locs := by rw [ef_1055]; exact hw
  have h_1056 : f_1055 0 = 0 := by rw [ef_1055]; exact h_1052
  have h_1057 : f_1055 1 = 0 := by rw [ef_1055]; rfl
  refine lv_aload_n hx hb dX12_usual_22 rfl (lv_at hl 0 rfl) ?_
  refine fg_RX12_13 hC hw 0 rfl rfl dX12_usual_23 ?_
  refine lv_iconst (v := 5) hx hb dX12_usual_26 (by decide) ?_
  refine lv_iload_n hx hb dX12_usual_27 rfl (lv_at hl 1 rfl) ?_
  refine lv_imul hx hb dX12_usual_28 ?_
  refine lv_topi (fun x_1058 ex_1058 => ?_)
  obtain rfl : x_1058 = 0 := ex_1058.trans (by decide)
  refine lv_iconst (v := 2) hx hb dX12_usual_29 (by decide) ?_
  refine lv_iadd hx hb dX12_usual_30 ?_
  refine lv_topi (fun x_1059 ex_1059 => ?_)
  obtain rfl : x_1059 = 2 := ex_1059.trans (by decide)
  refine lv_bipush (v := 10) hx hb dX12_usual_31 (by decide) ?_
  refine k_iast hC hw 1 rfl (k_in0 (by decide)) dX12_usual_33 (fun H locs hw => ?_)
  obtain ⟨f_1060, ef_1060⟩ : ∃ g, g = upd f_1055 (2 : Int32).toNatClampNeg 10 := ⟨_, rfl⟩
  have hw : kW γ A [(z, .inr (11, [.int n0, .int n1, .ref z2, .int n3, .int n4, .int n5, .int n6, .long n7, .int n8, .int n9, .ref z10, .ref z11, .ref z12, .ref z13, .ref z14, .ref z15, .ref z16, .ref z17, .ref z18, .ref z19, .int n20, .int n21, .ref z22, .ref z23, .ref z24, .ref z25, .ref z26, .ref z27, .ref z28, .ref z29, .ref z30, .ref z31, .ref z32, .ref z33, .int n34, .long n35, .ref z36, .ref z37, .ref z38, .ref z39, .ref z40, .ref z41, .ref z42, .ref z43, .ref z44, .ref z45, .ref z46, .ref z47, .ref z48, .int n49, .int n50, .int n51, .int n52, .int n53, .int n54, .ref z55, .ref z56, .int n57, .int n58, .ref z59, .ref z60, .ref z61, .int n62, .long n63])), (z10, .inl (γ.2.1 0, 10, .inl f_1060))] s H locs := by rw [ef_1060]; exact hw
  have h_1061 : f_1060 0 = 0 := by rw [ef_1060]; exact h_1056
  have h_1062 : f_1060 1 = 0 := by rw [ef_1060]; exact h_1057
  have h_1063 : f_1060 2 = 10 := by rw [ef_1060]; rfl
  refine lv_aload_n hx hb dX12_usual_34 rfl (lv_at hl 0 rfl) ?_
  refine fg_RX12_13 hC hw 0 rfl rfl dX12_usual_35 ?_
  refine lv_iconst (v := 5) hx hb dX12_usual_38 (by decide) ?_
  refine lv_iload_n hx hb dX12_usual_39 rfl (lv_at hl 1 rfl) ?_
  refine lv_imul hx hb dX12_usual_40 ?_
  refine lv_topi (fun x_1064 ex_1064 => ?_)
  obtain rfl : x_1064 = 0 := ex_1064.trans (by decide)
  refine lv_iconst (v := 3) hx hb dX12_usual_41 (by decide) ?_
  refine lv_iadd hx hb dX12_usual_42 ?_
  refine lv_topi (fun x_1065 ex_1065 => ?_)
  obtain rfl : x_1065 = 3 := ex_1065.trans (by decide)
  refine lv_bipush (v := 10) hx hb dX12_usual_43 (by decide) ?_
  refine k_iast hC hw 1 rfl (k_in0 (by decide)) dX12_usual_45 (fun H locs hw => ?_)
  obtain ⟨f_1066, ef_1066⟩ : ∃ g, g = upd f_1060 (3 : Int32).toNatClampNeg 10 := ⟨_, rfl⟩
  have hw : kW γ A [(z, .inr (11, [.int n0, .int n1, .ref z2, .int n3, .int n4, .int n5, .int n6, .long n7, .int n8, .int n9, .ref z10, .ref z11, .ref z12, .ref z13, .ref z14, .ref z15, .ref z16, .ref z17, .ref z18, .ref z19, .int n20, .int n21, .ref z22, .ref z23, .ref z24, .ref z25, .ref z26, .ref z27, .ref z28, .ref z29, .ref z30, .ref z31, .ref z32, .ref z33, .int n34, .long n35, .ref z36, .ref z37, .ref z38, .ref z39, .ref z40, .ref z41, .ref z42, .ref z43, .ref z44, .ref z45, .ref z46, .ref z47, .ref z48, .int n49, .int n50, .int n51, .int n52, .int n53, .int n54, .ref z55, .ref z56, .int n57, .int n58, .ref z59, .ref z60, .ref z61, .int n62, .long n63])), (z10, .inl (γ.2.1 0, 10, .inl f_1066))] s H locs := by rw [ef_1066]; exact hw
  have h_1067 : f_1066 0 = 0 := by rw [ef_1066]; exact h_1061
  have h_1068 : f_1066 1 = 0 := by rw [ef_1066]; exact h_1062
  have h_1069 : f_1066 2 = 10 := by rw [ef_1066]; exact h_1063
  have h_1070 : f_1066 3 = 10 := by rw [ef_1066]; rfl
  refine lv_aload_n hx hb dX12_usual_46 rfl (lv_at hl 0 rfl) ?_
  refine fg_RX12_13 hC hw 0 rfl rfl dX12_usual_47 ?_
  refine lv_iconst (v := 5) hx hb dX12_usual_50 (by decide) ?_
  refine lv_iload_n hx hb dX12_usual_51 rfl (lv_at hl 1 rfl) ?_
  refine lv_imul hx hb dX12_usual_52 ?_
  refine lv_topi (fun x_1071 ex_1071 => ?_)
  obtain rfl : x_1071 = 0 := ex_1071.trans (by decide)
  refine lv_iconst (v := 4) hx hb dX12_usual_53 (by decide) ?_
  refine lv_iadd hx hb dX12_usual_54 ?_
  refine lv_topi (fun x_1072 ex_1072 => ?_)
  obtain rfl : x_1072 = 4 := ex_1072.trans (by decide)
  refine lv_iconst (v := 3) hx hb dX12_usual_55 (by decide) ?_
  refine k_iast hC hw 1 rfl (k_in0 (by decide)) dX12_usual_56 (fun H locs hw => ?_)
  obtain ⟨f_1073, ef_1073⟩ : ∃ g, g = upd f_1066 (4 : Int32).toNatClampNeg 3 := ⟨_, rfl⟩
  have hw : kW γ A [(z, .inr (11, [.int n0, .int n1, .ref z2, .int n3, .int n4, .int n5, .int n6, .long n7, .int n8, .int n9, .ref z10, .ref z11, .ref z12, .ref z13, .ref z14, .ref z15, .ref z16, .ref z17, .ref z18, .ref z19, .int n20, .int n21, .ref z22, .ref z23, .ref z24, .ref z25, .ref z26, .ref z27, .ref z28, .ref z29, .ref z30, .ref z31, .ref z32, .ref z33, .int n34, .long n35, .ref z36, .ref z37, .ref z38, .ref z39, .ref z40, .ref z41, .ref z42, .ref z43, .ref z44, .ref z45, .ref z46, .ref z47, .ref z48, .int n49, .int n50, .int n51, .int n52, .int n53, .int n54, .ref z55, .ref z56, .int n57, .int n58, .ref z59, .ref z60, .ref z61, .int n62, .long n63])), (z10, .inl (γ.2.1 0, 10, .inl f_1073))] s H locs := by rw [ef_1073]; exact hw
  have h_1074 : f_1073 0 = 0 := by rw [ef_1073]; exact h_1067
  have h_1075 : f_1073 1 = 0 := by rw [ef_1073]; exact h_1068
  have h_1076 : f_1073 2 = 10 := by rw [ef_1073]; exact h_1069
  have h_1077 : f_1073 3 = 10 := by rw [ef_1073]; exact h_1070
  have h_1078 : f_1073 4 = 3 := by rw [ef_1073]; rfl
  exact k_vret hC hr hlocks hw [0, 1] rfl rfl ⟨f_1073, rfl, rfl, h_1074, h_1075, h_1076, h_1077, h_1078⟩ (by decide) (by decide) dX12_usual_57

set_option maxHeartbeats 4000000 in
set_option maxRecDepth 100000 in
theorem c_X12_usual_1 (γ : kΓ) (l : Launch) (z : Nat) (z2 : Nat) (z10 : Nat) (z11 : Nat) (z12 : Nat) (z13 : Nat) (z14 : Nat) (z15 : Nat) (z16 : Nat) (z17 : Nat) (z18 : Nat) (z19 : Nat) (z22 : Nat) (z23 : Nat) (z24 : Nat) (z25 : Nat) (z26 : Nat) (z27 : Nat) (z28 : Nat) (z29 : Nat) (z30 : Nat) (z31 : Nat) (z32 : Nat) (z33 : Nat) (z36 : Nat) (z37 : Nat) (z38 : Nat) (z39 : Nat) (z40 : Nat) (z41 : Nat) (z42 : Nat) (z43 : Nat) (z44 : Nat) (z45 : Nat) (z46 : Nat) (z47 : Nat) (z48 : Nat) (z55 : Nat) (z56 : Nat) (z59 : Nat) (z60 : Nat) (z61 : Nat) (n0 : Int32) (n1 : Int32) (n3 : Int32) (n4 : Int32) (n5 : Int32) (n6 : Int32) (n7 : Int64) (n8 : Int32) (n9 : Int32) (n20 : Int32) (n21 : Int32) (n34 : Int32) (n35 : Int64) (n49 : Int32) (n50 : Int32) (n51 : Int32) (n52 : Int32) (n53 : Int32) (n54 : Int32) (n57 : Int32) (n58 : Int32) (n62 : Int32) (n63 : Int64) (fa : Nat → Int32) (ha0 : fa 0 = 0) (ha1 : fa 1 = 0) (ha2 : fa 2 = 10) (ha3 : fa 3 = 10) (ha4 : fa 4 = 3) : kM γ l yX12_usual cX12_usual 2 none ({ frames := 0, cells := 0, slots := 0, locals := 0 } : Room) [.ref z, .int 1] [(z, .inr (11, [.int n0, .int n1, .ref z2, .int n3, .int n4, .int n5, .int n6, .long n7, .int n8, .int n9, .ref z10, .ref z11, .ref z12, .ref z13, .ref z14, .ref z15, .ref z16, .ref z17, .ref z18, .ref z19, .int n20, .int n21, .ref z22, .ref z23, .ref z24, .ref z25, .ref z26, .ref z27, .ref z28, .ref z29, .ref z30, .ref z31, .ref z32, .ref z33, .int n34, .long n35, .ref z36, .ref z37, .ref z38, .ref z39, .ref z40, .ref z41, .ref z42, .ref z43, .ref z44, .ref z45, .ref z46, .ref z47, .ref z48, .int n49, .int n50, .int n51, .int n52, .int n53, .int n54, .ref z55, .ref z56, .int n57, .int n58, .ref z59, .ref z60, .ref z61, .int n62, .long n63])), (z10, .inl (γ.2.1 0, 10, .inl fa))] (fun r w1 => ∃ (gb : Nat → Int32), r = none ∧ w1 = [(z, .inr (11, [.int n0, .int n1, .ref z2, .int n3, .int n4, .int n5, .int n6, .long n7, .int n8, .int n9, .ref z10, .ref z11, .ref z12, .ref z13, .ref z14, .ref z15, .ref z16, .ref z17, .ref z18, .ref z19, .int n20, .int n21, .ref z22, .ref z23, .ref z24, .ref z25, .ref z26, .ref z27, .ref z28, .ref z29, .ref z30, .ref z31, .ref z32, .ref z33, .int n34, .long n35, .ref z36, .ref z37, .ref z38, .ref z39, .ref z40, .ref z41, .ref z42, .ref z43, .ref z44, .ref z45, .ref z46, .ref z47, .ref z48, .int n49, .int n50, .int n51, .int n52, .int n53, .int n54, .ref z55, .ref z56, .int n57, .int n58, .ref z59, .ref z60, .ref z61, .int n62, .long n63])), (z10, .inl (γ.2.1 0, 10, .inl gb))] ∧ (gb 0 = 0) ∧ (gb 1 = 0) ∧ (gb 2 = 10) ∧ (gb 3 = 10) ∧ (gb 4 = 3)) := by
  refine k_ofW (by decide) (Nat.le_of_ble_eq_true rfl) ?_
  intro p e s m below meth c A ls hC hr hlocks hname hw hl
  have hx := hC.1
  have hb := hC.2.1
  have hl : lv_has ls 2 [(0, .ref z), (1, .int 1)] := hl
  refine lv_aload_n hx hb dX12_usual_0 rfl (lv_at hl 0 rfl) ?_
  refine fg_RX12_13 hC hw 0 rfl rfl dX12_usual_1 ?_
  refine lv_iconst (v := 5) hx hb dX12_usual_4 (by decide) ?_
  refine lv_iload_n hx hb dX12_usual_5 rfl (lv_at hl 1 rfl) ?_
  refine lv_imul hx hb dX12_usual_6 ?_
  refine lv_topi (fun x_1079 ex_1079 => ?_)
  obtain rfl : x_1079 = 5 := ex_1079.trans (by decide)
  refine lv_iconst (v := 0) hx hb dX12_usual_7 (by decide) ?_
  refine lv_iadd hx hb dX12_usual_8 ?_
  refine lv_topi (fun x_1080 ex_1080 => ?_)
  obtain rfl : x_1080 = 5 := ex_1080.trans (by decide)
  refine lv_iconst (v := 0) hx hb dX12_usual_9 (by decide) ?_
  refine k_iast hC hw 1 rfl (k_in0 (by decide)) dX12_usual_10 (fun H locs hw => ?_)
  obtain ⟨f_1081, ef_1081⟩ : ∃ g, g = upd fa (5 : Int32).toNatClampNeg 0 := ⟨_, rfl⟩
  have hw : kW γ A [(z, .inr (11, [.int n0, .int n1, .ref z2, .int n3, .int n4, .int n5, .int n6, .long n7, .int n8, .int n9, .ref z10, .ref z11, .ref z12, .ref z13, .ref z14, .ref z15, .ref z16, .ref z17, .ref z18, .ref z19, .int n20, .int n21, .ref z22, .ref z23, .ref z24, .ref z25, .ref z26, .ref z27, .ref z28, .ref z29, .ref z30, .ref z31, .ref z32, .ref z33, .int n34, .long n35, .ref z36, .ref z37, .ref z38, .ref z39, .ref z40, .ref z41, .ref z42, .ref z43, .ref z44, .ref z45, .ref z46, .ref z47, .ref z48, .int n49, .int n50, .int n51, .int n52, .int n53, .int n54, .ref z55, .ref z56, .int n57, .int n58, .ref z59, .ref z60, .ref z61, .int n62, .long n63])), (z10, .inl (γ.2.1 0, 10, .inl f_1081))] s H locs := by rw [ef_1081]; exact hw
  have h_1082 : f_1081 0 = 0 := by rw [ef_1081]; exact ha0
  have h_1083 : f_1081 1 = 0 := by rw [ef_1081]; exact ha1
  have h_1084 : f_1081 2 = 10 := by rw [ef_1081]; exact ha2
  have h_1085 : f_1081 3 = 10 := by rw [ef_1081]; exact ha3
  have h_1086 : f_1081 4 = 3 := by rw [ef_1081]; exact ha4
  have h_1087 : f_1081 5 = 0 := by rw [ef_1081]; rfl
  refine lv_aload_n hx hb dX12_usual_11 rfl (lv_at hl 0 rfl) ?_
  refine fg_RX12_13 hC hw 0 rfl rfl dX12_usual_12 ?_
  refine lv_iconst (v := 5) hx hb dX12_usual_15 (by decide) ?_
  refine lv_iload_n hx hb dX12_usual_16 rfl (lv_at hl 1 rfl) ?_
  refine lv_imul hx hb dX12_usual_17 ?_
  refine lv_topi (fun x_1088 ex_1088 => ?_)
  obtain rfl : x_1088 = 5 := ex_1088.trans (by decide)
  refine lv_iconst (v := 1) hx hb dX12_usual_18 (by decide) ?_
  refine lv_iadd hx hb dX12_usual_19 ?_
  refine lv_topi (fun x_1089 ex_1089 => ?_)
  obtain rfl : x_1089 = 6 := ex_1089.trans (by decide)
  refine lv_iconst (v := 0) hx hb dX12_usual_20 (by decide) ?_
  refine k_iast hC hw 1 rfl (k_in0 (by decide)) dX12_usual_21 (fun H locs hw => ?_)
  obtain ⟨f_1090, ef_1090⟩ : ∃ g, g = upd f_1081 (6 : Int32).toNatClampNeg 0 := ⟨_, rfl⟩
  have hw : kW γ A [(z, .inr (11, [.int n0, .int n1, .ref z2, .int n3, .int n4, .int n5, .int n6, .long n7, .int n8, .int n9, .ref z10, .ref z11, .ref z12, .ref z13, .ref z14, .ref z15, .ref z16, .ref z17, .ref z18, .ref z19, .int n20, .int n21, .ref z22, .ref z23, .ref z24, .ref z25, .ref z26, .ref z27, .ref z28, .ref z29, .ref z30, .ref z31, .ref z32, .ref z33, .int n34, .long n35, .ref z36, .ref z37, .ref z38, .ref z39, .ref z40, .ref z41, .ref z42, .ref z43, .ref z44, .ref z45, .ref z46, .ref z47, .ref z48, .int n49, .int n50, .int n51, .int n52, .int n53, .int n54, .ref z55, .ref z56, .int n57, .int n58, .ref z59, .ref z60, .ref z61, .int n62, .long n63])), (z10, .inl (γ.2.1 0, 10, .inl f_1090))] s H locs := by rw [ef_1090]; exact hw
  have h_1091 : f_1090 0 = 0 := by rw [ef_1090]; exact h_1082
  have h_1092 : f_1090 1 = 0 := by rw [ef_1090]; exact h_1083
  have h_1093 : f_1090 2 = 10 := by rw [ef_1090]; exact h_1084
  have h_1094 : f_1090 3 = 10 := by rw [ef_1090]; exact h_1085
  have h_1095 : f_1090 4 = 3 := by rw [ef_1090]; exact h_1086
  have h_1096 : f_1090 5 = 0 := by rw [ef_1090]; exact h_1087
  have h_1097 : f_1090 6 = 0 := by rw [ef_1090]; rfl
  refine lv_aload_n hx hb dX12_usual_22 rfl (lv_at hl 0 rfl) ?_
  refine fg_RX12_13 hC hw 0 rfl rfl dX12_usual_23 ?_
  refine lv_iconst (v := 5) hx hb dX12_usual_26 (by decide) ?_
  refine lv_iload_n hx hb dX12_usual_27 rfl (lv_at hl 1 rfl) ?_
  refine lv_imul hx hb dX12_usual_28 ?_
  refine lv_topi (fun x_1098 ex_1098 => ?_)
  obtain rfl : x_1098 = 5 := ex_1098.trans (by decide)
  refine lv_iconst (v := 2) hx hb dX12_usual_29 (by decide) ?_
  refine lv_iadd hx hb dX12_usual_30 ?_
  refine lv_topi (fun x_1099 ex_1099 => ?_)
  obtain rfl : x_1099 = 7 := ex_1099.trans (by decide)
  refine lv_bipush (v := 10) hx hb dX12_usual_31 (by decide) ?_
  refine k_iast hC hw 1 rfl (k_in0 (by decide)) dX12_usual_33 (fun H locs hw => ?_)
  obtain ⟨f_1100, ef_1100⟩ : ∃ g, g = upd f_1090 (7 : Int32).toNatClampNeg 10 := ⟨_, rfl⟩
  have hw : kW γ A [(z, .inr (11, [.int n0, .int n1, .ref z2, .int n3, .int n4, .int n5, .int n6, .long n7, .int n8, .int n9, .ref z10, .ref z11, .ref z12, .ref z13, .ref z14, .ref z15, .ref z16, .ref z17, .ref z18, .ref z19, .int n20, .int n21, .ref z22, .ref z23, .ref z24, .ref z25, .ref z26, .ref z27, .ref z28, .ref z29, .ref z30, .ref z31, .ref z32, .ref z33, .int n34, .long n35, .ref z36, .ref z37, .ref z38, .ref z39, .ref z40, .ref z41, .ref z42, .ref z43, .ref z44, .ref z45, .ref z46, .ref z47, .ref z48, .int n49, .int n50, .int n51, .int n52, .int n53, .int n54, .ref z55, .ref z56, .int n57, .int n58, .ref z59, .ref z60, .ref z61, .int n62, .long n63])), (z10, .inl (γ.2.1 0, 10, .inl f_1100))] s H locs := by rw [ef_1100]; exact hw
  have h_1101 : f_1100 0 = 0 := by rw [ef_1100]; exact h_1091
  have h_1102 : f_1100 1 = 0 := by rw [ef_1100]; exact h_1092
  have h_1103 : f_1100 2 = 10 := by rw [ef_1100]; exact h_1093
  have h_1104 : f_1100 3 = 10 := by rw [ef_1100]; exact h_1094
  have h_1105 : f_1100 4 = 3 := by rw [ef_1100]; exact h_1095
  have h_1106 : f_1100 5 = 0 := by rw [ef_1100]; exact h_1096
  have h_1107 : f_1100 6 = 0 := by rw [ef_1100]; exact h_1097
  have h_1108 : f_1100 7 = 10 := by rw [ef_1100]; rfl
  refine lv_aload_n hx hb dX12_usual_34 rfl (lv_at hl 0 rfl) ?_
  refine fg_RX12_13 hC hw 0 rfl rfl dX12_usual_35 ?_
  refine lv_iconst (v := 5) hx hb dX12_usual_38 (by decide) ?_
  refine lv_iload_n hx hb dX12_usual_39 rfl (lv_at hl 1 rfl) ?_
  refine lv_imul hx hb dX12_usual_40 ?_
  refine lv_topi (fun x_1109 ex_1109 => ?_)
  obtain rfl : x_1109 = 5 := ex_1109.trans (by decide)
  refine lv_iconst (v := 3) hx hb dX12_usual_41 (by decide) ?_
  refine lv_iadd hx hb dX12_usual_42 ?_
  refine lv_topi (fun x_1110 ex_1110 => ?_)
  obtain rfl : x_1110 = 8 := ex_1110.trans (by decide)
  refine lv_bipush (v := 10) hx hb dX12_usual_43 (by decide) ?_
  refine k_iast hC hw 1 rfl (k_in0 (by decide)) dX12_usual_45 (fun H locs hw => ?_)
  obtain ⟨f_1111, ef_1111⟩ : ∃ g, g = upd f_1100 (8 : Int32).toNatClampNeg 10 := ⟨_, rfl⟩
  have hw : kW γ A [(z, .inr (11, [.int n0, .int n1, .ref z2, .int n3, .int n4, .int n5, .int n6, .long n7, .int n8, .int n9, .ref z10, .ref z11, .ref z12, .ref z13, .ref z14, .ref z15, .ref z16, .ref z17, .ref z18, .ref z19, .int n20, .int n21, .ref z22, .ref z23, .ref z24, .ref z25, .ref z26, .ref z27, .ref z28, .ref z29, .ref z30, .ref z31, .ref z32, .ref z33, .int n34, .long n35, .ref z36, .ref z37, .ref z38, .ref z39, .ref z40, .ref z41, .ref z42, .ref z43, .ref z44, .ref z45, .ref z46, .ref z47, .ref z48, .int n49, .int n50, .int n51, .int n52, .int n53, .int n54, .ref z55, .ref z56, .int n57, .int n58, .ref z59, .ref z60, .ref z61, .int n62, .long n63])), (z10, .inl (γ.2.1 0, 10, .inl f_1111))] s H locs := by rw [ef_1111]; exact hw
  have h_1112 : f_1111 0 = 0 := by rw [ef_1111]; exact h_1101
  have h_1113 : f_1111 1 = 0 := by rw [ef_1111]; exact h_1102
  have h_1114 : f_1111 2 = 10 := by rw [ef_1111]; exact h_1103
  have h_1115 : f_1111 3 = 10 := by rw [ef_1111]; exact h_1104
  have h_1116 : f_1111 4 = 3 := by rw [ef_1111]; exact h_1105
  have h_1117 : f_1111 5 = 0 := by rw [ef_1111]; exact h_1106
  have h_1118 : f_1111 6 = 0 := by rw [ef_1111]; exact h_1107
  have h_1119 : f_1111 7 = 10 := by rw [ef_1111]; exact h_1108
  have h_1120 : f_1111 8 = 10 := by rw [ef_1111]; rfl
  refine lv_aload_n hx hb dX12_usual_46 rfl (lv_at hl 0 rfl) ?_
  refine fg_RX12_13 hC hw 0 rfl rfl dX12_usual_47 ?_
  refine lv_iconst (v := 5) hx hb dX12_usual_50 (by decide) ?_
  refine lv_iload_n hx hb dX12_usual_51 rfl (lv_at hl 1 rfl) ?_
  refine lv_imul hx hb dX12_usual_52 ?_
  refine lv_topi (fun x_1121 ex_1121 => ?_)
  obtain rfl : x_1121 = 5 := ex_1121.trans (by decide)
  refine lv_iconst (v := 4) hx hb dX12_usual_53 (by decide) ?_
  refine lv_iadd hx hb dX12_usual_54 ?_
  refine lv_topi (fun x_1122 ex_1122 => ?_)
  obtain rfl : x_1122 = 9 := ex_1122.trans (by decide)
  refine lv_iconst (v := 3) hx hb dX12_usual_55 (by decide) ?_
  refine k_iast hC hw 1 rfl (k_in0 (by decide)) dX12_usual_56 (fun H locs hw => ?_)
  obtain ⟨f_1123, ef_1123⟩ : ∃ g, g = upd f_1111 (9 : Int32).toNatClampNeg 3 := ⟨_, rfl⟩
  have hw : kW γ A [(z, .inr (11, [.int n0, .int n1, .ref z2, .int n3, .int n4, .int n5, .int n6, .long n7, .int n8, .int n9, .ref z10, .ref z11, .ref z12, .ref z13, .ref z14, .ref z15, .ref z16, .ref z17, .ref z18, .ref z19, .int n20, .int n21, .ref z22, .ref z23, .ref z24, .ref z25, .ref z26, .ref z27, .ref z28, .ref z29, .ref z30, .ref z31, .ref z32, .ref z33, .int n34, .long n35, .ref z36, .ref z37, .ref z38, .ref z39, .ref z40, .ref z41, .ref z42, .ref z43, .ref z44, .ref z45, .ref z46, .ref z47, .ref z48, .int n49, .int n50, .int n51, .int n52, .int n53, .int n54, .ref z55, .ref z56, .int n57, .int n58, .ref z59, .ref z60, .ref z61, .int n62, .long n63])), (z10, .inl (γ.2.1 0, 10, .inl f_1123))] s H locs := by rw [ef_1123]; exact hw
  have h_1124 : f_1123 0 = 0 := by rw [ef_1123]; exact h_1112
  have h_1125 : f_1123 1 = 0 := by rw [ef_1123]; exact h_1113
  have h_1126 : f_1123 2 = 10 := by rw [ef_1123]; exact h_1114
  have h_1127 : f_1123 3 = 10 := by rw [ef_1123]; exact h_1115
  have h_1128 : f_1123 4 = 3 := by rw [ef_1123]; exact h_1116
  have h_1129 : f_1123 5 = 0 := by rw [ef_1123]; exact h_1117
  have h_1130 : f_1123 6 = 0 := by rw [ef_1123]; exact h_1118
  have h_1131 : f_1123 7 = 10 := by rw [ef_1123]; exact h_1119
  have h_1132 : f_1123 8 = 10 := by rw [ef_1123]; exact h_1120
  have h_1133 : f_1123 9 = 3 := by rw [ef_1123]; rfl
  exact k_vret hC hr hlocks hw [0, 1] rfl rfl ⟨f_1123, rfl, rfl, h_1124, h_1125, h_1126, h_1127, h_1128⟩ (by decide) (by decide) dX12_usual_57


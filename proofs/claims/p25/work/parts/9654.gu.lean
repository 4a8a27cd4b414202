theorem tt_cases {T : Nat} (hT : T ≤ 8) (th : Int32) : th < 0 ∨ (¬ th < 0 ∧ nI T ≤ th) ∨ ∃ t, t < T ∧ th = nI t := by
  rw [Int32.lt_iff_toInt_lt, Int32.le_iff_toInt_le, nI_toInt (by omega), show (0 : Int32).toInt = 0 from by decide]
  by_cases h1 : th.toInt < 0
  · exact .inl h1
  · by_cases h2 : (T : Int) ≤ th.toInt
    · exact .inr (.inl ⟨h1, h2⟩)
    · refine .inr (.inr ⟨th.toInt.toNat, by omega, Int32.toInt_inj.mp ?_⟩)
      rw [nI_toInt (by omega)]
      omega
theorem dX11_isThought_0 : decode cX11_isThought 0 = .ok (.iload_n 1, 1) := by decide +kernel
theorem dX11_isThought_1 : decode cX11_isThought 1 = .ok (.ifCond .lt 18, 3) := by decide +kernel
theorem dX11_isThought_4 : decode cX11_isThought 4 = .ok (.iload_n 1, 1) := by decide +kernel
theorem dX11_isThought_5 : decode cX11_isThought 5 = .ok (.aload_n 0, 1) := by decide +kernel
theorem dX11_isThought_6 : decode cX11_isThought 6 = .ok (.getfield 65, 3) := by decide +kernel
theorem dX11_isThought_9 : decode cX11_isThought 9 = .ok (.getfield 108, 3) := by decide +kernel
theorem dX11_isThought_12 : decode cX11_isThought 12 = .ok (.if_icmp .ge 7, 3) := by decide +kernel
theorem dX11_isThought_15 : decode cX11_isThought 15 = .ok (.iconst 1, 1) := by decide +kernel
theorem dX11_isThought_16 : decode cX11_isThought 16 = .ok (.goto 4, 3) := by decide +kernel
theorem dX11_isThought_19 : decode cX11_isThought 19 = .ok (.iconst 0, 1) := by decide +kernel
theorem dX11_isThought_20 : decode cX11_isThought 20 = .ok (.ireturn, 1) := by decide +kernel
theorem dX12_isThought_0 : decode cX12_isThought 0 = .ok (.iload_n 1, 1) := by decide +kernel
theorem dX12_isThought_1 : decode cX12_isThought 1 = .ok (.ifCond .lt 17, 3) := by decide +kernel
theorem dX12_isThought_4 : decode cX12_isThought 4 = .ok (.iload_n 1, 1) := by decide +kernel
theorem dX12_isThought_5 : decode cX12_isThought 5 = .ok (.aload_n 0, 1) := by decide +kernel
theorem dX12_isThought_6 : decode cX12_isThought 6 = .ok (.getfield 13, 3) := by decide +kernel
theorem dX12_isThought_9 : decode cX12_isThought 9 = .ok (.iconst 0, 1) := by decide +kernel
theorem dX12_isThought_10 : decode cX12_isThought 10 = .ok (.iaload, 1) := by decide +kernel
theorem dX12_isThought_11 : decode cX12_isThought 11 = .ok (.if_icmp .ge 7, 3) := by decide +kernel
theorem dX12_isThought_14 : decode cX12_isThought 14 = .ok (.iconst 1, 1) := by decide +kernel
theorem dX12_isThought_15 : decode cX12_isThought 15 = .ok (.goto 4, 3) := by decide +kernel
theorem dX12_isThought_18 : decode cX12_isThought 18 = .ok (.iconst 0, 1) := by decide +kernel
theorem dX12_isThought_19 : decode cX12_isThought 19 = .ok (.ireturn, 1) := by decide +kernel
theorem dX11_guess_0 : decode cX11_guess 0 = .ok (.aload_n 0, 1) := by decide +kernel
theorem dX11_guess_1 : decode cX11_guess 1 = .ok (.iload_n 1, 1) := by decide +kernel
theorem dX11_guess_2 : decode cX11_guess 2 = .ok (.invokevirtual 118, 3) := by decide +kernel
theorem dX11_guess_5 : decode cX11_guess 5 = .ok (.ifCond .eq 15, 3) := by decide +kernel
theorem dX11_guess_8 : decode cX11_guess 8 = .ok (.aload_n 0, 1) := by decide +kernel
theorem dX11_guess_9 : decode cX11_guess 9 = .ok (.getfield 26, 3) := by decide +kernel
theorem dX11_guess_12 : decode cX11_guess 12 = .ok (.getfield 189, 3) := by decide +kernel
theorem dX11_guess_15 : decode cX11_guess 15 = .ok (.bipush 8, 2) := by decide +kernel
theorem dX11_guess_17 : decode cX11_guess 17 = .ok (.if_icmp .lt 5, 3) := by decide +kernel
theorem dX11_guess_20 : decode cX11_guess 20 = .ok (.iconst 0, 1) := by decide +kernel
theorem dX11_guess_21 : decode cX11_guess 21 = .ok (.ireturn, 1) := by decide +kernel
theorem dX11_guess_22 : decode cX11_guess 22 = .ok (.aload_n 0, 1) := by decide +kernel
theorem dX11_guess_23 : decode cX11_guess 23 = .ok (.getfield 26, 3) := by decide +kernel
theorem dX11_guess_26 : decode cX11_guess 26 = .ok (.getfield 311, 3) := by decide +kernel
theorem dX11_guess_29 : decode cX11_guess 29 = .ok (.aload_n 0, 1) := by decide +kernel
theorem dX11_guess_30 : decode cX11_guess 30 = .ok (.getfield 26, 3) := by decide +kernel
theorem dX11_guess_33 : decode cX11_guess 33 = .ok (.getfield 189, 3) := by decide +kernel
theorem dX11_guess_36 : decode cX11_guess 36 = .ok (.iload_n 1, 1) := by decide +kernel
theorem dX11_guess_37 : decode cX11_guess 37 = .ok (.iconst 2, 1) := by decide +kernel
theorem dX11_guess_38 : decode cX11_guess 38 = .ok (.imul, 1) := by decide +kernel
theorem dX11_guess_39 : decode cX11_guess 39 = .ok (.iload_n 2, 1) := by decide +kernel
theorem dX11_guess_40 : decode cX11_guess 40 = .ok (.ifCond .eq 7, 3) := by decide +kernel
theorem dX11_guess_43 : decode cX11_guess 43 = .ok (.iconst 1, 1) := by decide +kernel
theorem dX11_guess_44 : decode cX11_guess 44 = .ok (.goto 4, 3) := by decide +kernel
theorem dX11_guess_47 : decode cX11_guess 47 = .ok (.iconst 0, 1) := by decide +kernel
theorem dX11_guess_48 : decode cX11_guess 48 = .ok (.iadd, 1) := by decide +kernel
theorem dX11_guess_49 : decode cX11_guess 49 = .ok (.iastore, 1) := by decide +kernel
theorem dX11_guess_50 : decode cX11_guess 50 = .ok (.aload_n 0, 1) := by decide +kernel
theorem dX11_guess_51 : decode cX11_guess 51 = .ok (.getfield 26, 3) := by decide +kernel
theorem dX11_guess_54 : decode cX11_guess 54 = .ok (.dup, 1) := by decide +kernel
theorem dX11_guess_55 : decode cX11_guess 55 = .ok (.getfield 189, 3) := by decide +kernel
theorem dX11_guess_58 : decode cX11_guess 58 = .ok (.iconst 1, 1) := by decide +kernel
theorem dX11_guess_59 : decode cX11_guess 59 = .ok (.iadd, 1) := by decide +kernel
theorem dX11_guess_60 : decode cX11_guess 60 = .ok (.putfield 189, 3) := by decide +kernel
theorem dX11_guess_63 : decode cX11_guess 63 = .ok (.iconst 1, 1) := by decide +kernel
theorem dX11_guess_64 : decode cX11_guess 64 = .ok (.ireturn, 1) := by decide +kernel
theorem dX12_guess_0 : decode cX12_guess 0 = .ok (.aload_n 0, 1) := by decide +kernel
theorem dX12_guess_1 : decode cX12_guess 1 = .ok (.iconst 0, 1) := by decide +kernel
theorem dX12_guess_2 : decode cX12_guess 2 = .ok (.putfield 143, 3) := by decide +kernel
theorem dX12_guess_5 : decode cX12_guess 5 = .ok (.aload_n 0, 1) := by decide +kernel
theorem dX12_guess_6 : decode cX12_guess 6 = .ok (.iload_n 1, 1) := by decide +kernel
theorem dX12_guess_7 : decode cX12_guess 7 = .ok (.invokevirtual 384, 3) := by decide +kernel
theorem dX12_guess_10 : decode cX12_guess 10 = .ok (.ifCond .eq 14, 3) := by decide +kernel
theorem dX12_guess_13 : decode cX12_guess 13 = .ok (.aload_n 0, 1) := by decide +kernel
theorem dX12_guess_14 : decode cX12_guess 14 = .ok (.getfield 93, 3) := by decide +kernel
theorem dX12_guess_17 : decode cX12_guess 17 = .ok (.iconst 0, 1) := by decide +kernel
theorem dX12_guess_18 : decode cX12_guess 18 = .ok (.iaload, 1) := by decide +kernel
theorem dX12_guess_19 : decode cX12_guess 19 = .ok (.bipush 8, 2) := by decide +kernel
theorem dX12_guess_21 : decode cX12_guess 21 = .ok (.if_icmp .ne 5, 3) := by decide +kernel
theorem dX12_guess_24 : decode cX12_guess 24 = .ok (.iconst 0, 1) := by decide +kernel
theorem dX12_guess_25 : decode cX12_guess 25 = .ok (.ireturn, 1) := by decide +kernel
theorem dX12_guess_26 : decode cX12_guess 26 = .ok (.aload_n 0, 1) := by decide +kernel
theorem dX12_guess_27 : decode cX12_guess 27 = .ok (.getfield 96, 3) := by decide +kernel
theorem dX12_guess_30 : decode cX12_guess 30 = .ok (.aload_n 0, 1) := by decide +kernel
theorem dX12_guess_31 : decode cX12_guess 31 = .ok (.getfield 93, 3) := by decide +kernel
theorem dX12_guess_34 : decode cX12_guess 34 = .ok (.iconst 0, 1) := by decide +kernel
theorem dX12_guess_35 : decode cX12_guess 35 = .ok (.iaload, 1) := by decide +kernel
theorem dX12_guess_36 : decode cX12_guess 36 = .ok (.iload_n 1, 1) := by decide +kernel
theorem dX12_guess_37 : decode cX12_guess 37 = .ok (.iastore, 1) := by decide +kernel
theorem dX12_guess_38 : decode cX12_guess 38 = .ok (.aload_n 0, 1) := by decide +kernel
theorem dX12_guess_39 : decode cX12_guess 39 = .ok (.getfield 99, 3) := by decide +kernel
theorem dX12_guess_42 : decode cX12_guess 42 = .ok (.aload_n 0, 1) := by decide +kernel
theorem dX12_guess_43 : decode cX12_guess 43 = .ok (.getfield 93, 3) := by decide +kernel
theorem dX12_guess_46 : decode cX12_guess 46 = .ok (.iconst 0, 1) := by decide +kernel
theorem dX12_guess_47 : decode cX12_guess 47 = .ok (.iaload, 1) := by decide +kernel
theorem dX12_guess_48 : decode cX12_guess 48 = .ok (.iload_n 2, 1) := by decide +kernel
theorem dX12_guess_49 : decode cX12_guess 49 = .ok (.bastore, 1) := by decide +kernel
theorem dX12_guess_50 : decode cX12_guess 50 = .ok (.aload_n 0, 1) := by decide +kernel
theorem dX12_guess_51 : decode cX12_guess 51 = .ok (.getfield 93, 3) := by decide +kernel
theorem dX12_guess_54 : decode cX12_guess 54 = .ok (.iconst 0, 1) := by decide +kernel
theorem dX12_guess_55 : decode cX12_guess 55 = .ok (.dup2, 1) := by decide +kernel
theorem dX12_guess_56 : decode cX12_guess 56 = .ok (.iaload, 1) := by decide +kernel
theorem dX12_guess_57 : decode cX12_guess 57 = .ok (.iconst 1, 1) := by decide +kernel
theorem dX12_guess_58 : decode cX12_guess 58 = .ok (.iadd, 1) := by decide +kernel
theorem dX12_guess_59 : decode cX12_guess 59 = .ok (.iastore, 1) := by decide +kernel
theorem dX12_guess_60 : decode cX12_guess 60 = .ok (.iconst 1, 1) := by decide +kernel
theorem dX12_guess_61 : decode cX12_guess 61 = .ok (.ireturn, 1) := by decide +kernel
set_option maxHeartbeats 4000000 in
set_option maxRecDepth 100000 in
theorem c_X11_isTh_lo (γ : kΓ) (l : Launch) (x : Nat) (x0 : Nat) (x1 : Nat) (x2 : Nat) (x3 : Nat) (x4 : Nat) (x5 : Nat) (x6 : Nat) (x7 : Nat) (x8 : Nat) (x9 : Nat) (x10 : Nat) (a0 : Nat) (a1 : Nat) (a2 : Nat) (a3 : Nat) (a4 : Nat) (a5 : Nat) (a6 : Nat) (a7 : Nat) (T : Nat) (t9 : Int32) (t10 : Int32) (t11 : Int32) (t12 : Int32) (t13 : Int32) (t14 : Int32) (t15 : Int32) (t16 : Int32) (t17 : Int32) (t18 : Int32) (th : Int32) (h1 : th < 0) : kM γ l yX11_isThought cX11_isThought 2 ((some .boolean)) ({ frames := 0, cells := 0, slots := 0, locals := 0 } : Room) [.ref x, .int th] [(x, .inr (10, [.ref x0, .ref x1, .ref x2, .ref x3, .ref x4, .ref x5, .ref x6, .ref x7, .ref x8, .ref x9, .ref x10])), (x9, .inr (0, [.ref a0, .ref a1, .ref a2, .ref a3, .ref a4, .ref a5, .ref a6, .ref a7, .int (nI T), .int t9, .int t10, .int t11, .int t12, .int t13, .int t14, .int t15, .int t16, .int t17, .int t18]))] (fun r w1 => r = some (.int 0) ∧ w1 = [(x, .inr (10, [.ref x0, .ref x1, .ref x2, .ref x3, .ref x4, .ref x5, .ref x6, .ref x7, .ref x8, .ref x9, .ref x10])), (x9, .inr (0, [.ref a0, .ref a1, .ref a2, .ref a3, .ref a4, .ref a5, .ref a6, .ref a7, .int (nI T), .int t9, .int t10, .int t11, .int t12, .int t13, .int t14, .int t15, .int t16, .int t17, .int t18]))]) := by
  refine k_ofW (by decide) (Nat.le_of_ble_eq_true rfl) ?_
  intro p9 e s m below meth c A ls hC hr hlocks hname hw hl
  have hx := hC.1
  have hb := hC.2.1
  have hl : lv_has ls 2 [(0, .ref x), (1, .int th)] := hl
  refine lv_iload_n hx hb dX11_isThought_0 rfl (lv_at hl 1 rfl) ?_
  refine lv_if_lt (tgt := 19) hx hb dX11_isThought_1 (by decide) (fun _ => ?_) (fun h => absurd h1 h)
  refine lv_iconst (v := 0) hx hb dX11_isThought_19 (by decide) ?_
  exact k_zret hC hr hlocks rfl hw [0, 1] rfl rfl ⟨rfl, rfl⟩ (by decide) (by decide) dX11_isThought_20

set_option maxHeartbeats 4000000 in
set_option maxRecDepth 100000 in
theorem c_X11_isTh_hi (γ : kΓ) (l : Launch) (x : Nat) (x0 : Nat) (x1 : Nat) (x2 : Nat) (x3 : Nat) (x4 : Nat) (x5 : Nat) (x6 : Nat) (x7 : Nat) (x8 : Nat) (x9 : Nat) (x10 : Nat) (a0 : Nat) (a1 : Nat) (a2 : Nat) (a3 : Nat) (a4 : Nat) (a5 : Nat) (a6 : Nat) (a7 : Nat) (T : Nat) (t9 : Int32) (t10 : Int32) (t11 : Int32) (t12 : Int32) (t13 : Int32) (t14 : Int32) (t15 : Int32) (t16 : Int32) (t17 : Int32) (t18 : Int32) (th : Int32) (h1 : ¬ th < 0) (h2 : nI T ≤ th) : kM γ l yX11_isThought cX11_isThought 2 ((some .boolean)) ({ frames := 0, cells := 0, slots := 0, locals := 0 } : Room) [.ref x, .int th] [(x, .inr (10, [.ref x0, .ref x1, .ref x2, .ref x3, .ref x4, .ref x5, .ref x6, .ref x7, .ref x8, .ref x9, .ref x10])), (x9, .inr (0, [.ref a0, .ref a1, .ref a2, .ref a3, .ref a4, .ref a5, .ref a6, .ref a7, .int (nI T), .int t9, .int t10, .int t11, .int t12, .int t13, .int t14, .int t15, .int t16, .int t17, .int t18]))] (fun r w1 => r = some (.int 0) ∧ w1 = [(x, .inr (10, [.ref x0, .ref x1, .ref x2, .ref x3, .ref x4, .ref x5, .ref x6, .ref x7, .ref x8, .ref x9, .ref x10])), (x9, .inr (0, [.ref a0, .ref a1, .ref a2, .ref a3, .ref a4, .ref a5, .ref a6, .ref a7, .int (nI T), .int t9, .int t10, .int t11, .int t12, .int t13, .int t14, .int t15, .int t16, .int t17, .int t18]))]) := by
  refine k_ofW (by decide) (Nat.le_of_ble_eq_true rfl) ?_
  intro p9 e s m below meth c A ls hC hr hlocks hname hw hl
  have hx := hC.1
  have hb := hC.2.1
  have hl : lv_has ls 2 [(0, .ref x), (1, .int th)] := hl
  refine lv_iload_n hx hb dX11_isThought_0 rfl (lv_at hl 1 rfl) ?_
  refine lv_if_lt (tgt := 19) hx hb dX11_isThought_1 (by decide) (fun h => absurd h h1) (fun _ => ?_)
  refine lv_iload_n hx hb dX11_isThought_4 rfl (lv_at hl 1 rfl) ?_
  refine lv_aload_n hx hb dX11_isThought_5 rfl (lv_at hl 0 rfl) ?_
  refine fg_RX11_65 hC hw 0 rfl rfl dX11_isThought_6 ?_
  refine fg_RX11_108 hC hw 1 rfl rfl dX11_isThought_9 ?_
  refine lv_icmp_ge (tgt := 19) hx hb dX11_isThought_12 (by decide) (fun _ => ?_) (fun h => absurd h2 h)
  refine lv_iconst (v := 0) hx hb dX11_isThought_19 (by decide) ?_
  exact k_zret hC hr hlocks rfl hw [0, 1] rfl rfl ⟨rfl, rfl⟩ (by decide) (by decide) dX11_isThought_20

set_option maxHeartbeats 4000000 in
set_option maxRecDepth 100000 in
theorem c_X11_isTh_in (γ : kΓ) (l : Launch) (x : Nat) (x0 : Nat) (x1 : Nat) (x2 : Nat) (x3 : Nat) (x4 : Nat) (x5 : Nat) (x6 : Nat) (x7 : Nat) (x8 : Nat) (x9 : Nat) (x10 : Nat) (a0 : Nat) (a1 : Nat) (a2 : Nat) (a3 : Nat) (a4 : Nat) (a5 : Nat) (a6 : Nat) (a7 : Nat) (T : Nat) (t9 : Int32) (t10 : Int32) (t11 : Int32) (t12 : Int32) (t13 : Int32) (t14 : Int32) (t15 : Int32) (t16 : Int32) (t17 : Int32) (t18 : Int32) (t : Nat) (hT : T ≤ 8) (ht : t < T) : kM γ l yX11_isThought cX11_isThought 2 ((some .boolean)) ({ frames := 0, cells := 0, slots := 0, locals := 0 } : Room) [.ref x, .int (nI t)] [(x, .inr (10, [.ref x0, .ref x1, .ref x2, .ref x3, .ref x4, .ref x5, .ref x6, .ref x7, .ref x8, .ref x9, .ref x10])), (x9, .inr (0, [.ref a0, .ref a1, .ref a2, .ref a3, .ref a4, .ref a5, .ref a6, .ref a7, .int (nI T), .int t9, .int t10, .int t11, .int t12, .int t13, .int t14, .int t15, .int t16, .int t17, .int t18]))] (fun r w1 => r = some (.int 1) ∧ w1 = [(x, .inr (10, [.ref x0, .ref x1, .ref x2, .ref x3, .ref x4, .ref x5, .ref x6, .ref x7, .ref x8, .ref x9, .ref x10])), (x9, .inr (0, [.ref a0, .ref a1, .ref a2, .ref a3, .ref a4, .ref a5, .ref a6, .ref a7, .int (nI T), .int t9, .int t10, .int t11, .int t12, .int t13, .int t14, .int t15, .int t16, .int t17, .int t18]))]) := by
  refine k_ofW (by decide) (Nat.le_of_ble_eq_true rfl) ?_
  intro p9 e s m below meth c A ls hC hr hlocks hname hw hl
  have hx := hC.1
  have hb := hC.2.1
  have hl : lv_has ls 2 [(0, .ref x), (1, .int (nI t))] := hl
  refine lv_iload_n hx hb dX11_isThought_0 rfl (lv_at hl 1 rfl) ?_
  refine lv_if_lt (tgt := 19) hx hb dX11_isThought_1 (by decide) (fun h => absurd h (nI_n0 (by omega))) (fun _ => ?_)
  refine lv_iload_n hx hb dX11_isThought_4 rfl (lv_at hl 1 rfl) ?_
  refine lv_aload_n hx hb dX11_isThought_5 rfl (lv_at hl 0 rfl) ?_
  refine fg_RX11_65 hC hw 0 rfl rfl dX11_isThought_6 ?_
  refine fg_RX11_108 hC hw 1 rfl rfl dX11_isThought_9 ?_
  refine lv_icmp_ge (tgt := 19) hx hb dX11_isThought_12 (by decide) (fun h => absurd h (nI_ge ht (by omega))) (fun _ => ?_)
  refine lv_iconst (v := 1) hx hb dX11_isThought_15 (by decide) ?_
  refine lv_goto (tgt := 20) hx hb dX11_isThought_16 (by decide) ?_
  exact k_zret hC hr hlocks rfl hw [0, 1] rfl rfl ⟨rfl, rfl⟩ (by decide) (by decide) dX11_isThought_20

set_option maxHeartbeats 4000000 in
set_option maxRecDepth 100000 in
theorem c_X12_isTh_lo (γ : kΓ) (l : Launch) (z : Nat) (z2 : Nat) (z10 : Nat) (z11 : Nat) (z12 : Nat) (z13 : Nat) (z14 : Nat) (z15 : Nat) (z16 : Nat) (z17 : Nat) (z18 : Nat) (z19 : Nat) (z22 : Nat) (z23 : Nat) (z24 : Nat) (z25 : Nat) (z26 : Nat) (z27 : Nat) (z28 : Nat) (z29 : Nat) (z30 : Nat) (z31 : Nat) (z32 : Nat) (z33 : Nat) (z36 : Nat) (z37 : Nat) (z38 : Nat) (z39 : Nat) (z40 : Nat) (z41 : Nat) (z42 : Nat) (z43 : Nat) (z44 : Nat) (z45 : Nat) (z46 : Nat) (z47 : Nat) (z48 : Nat) (z55 : Nat) (z56 : Nat) (z59 : Nat) (z60 : Nat) (z61 : Nat) (n0 : Int32) (n1 : Int32) (n3 : Int32) (n4 : Int32) (n5 : Int32) (n6 : Int32) (n7 : Int64) (n8 : Int32) (n9 : Int32) (n20 : Int32) (n21 : Int32) (n34 : Int32) (n35 : Int64) (n49 : Int32) (n50 : Int32) (n51 : Int32) (n52 : Int32) (n53 : Int32) (n54 : Int32) (n57 : Int32) (n58 : Int32) (n62 : Int32) (n63 : Int64) (ab : Nat → Int32) (T : Nat) (th : Int32) (h0 : ab 0 = nI T) (h1 : th < 0) : kM γ l yX12_isThought cX12_isThought 2 ((some .boolean)) ({ frames := 0, cells := 0, slots := 0, locals := 0 } : Room) [.ref z, .int th] [(z, .inr (11, [.int n0, .int n1, .ref z2, .int n3, .int n4, .int n5, .int n6, .long n7, .int n8, .int n9, .ref z10, .ref z11, .ref z12, .ref z13, .ref z14, .ref z15, .ref z16, .ref z17, .ref z18, .ref z19, .int n20, .int n21, .ref z22, .ref z23, .ref z24, .ref z25, .ref z26, .ref z27, .ref z28, .ref z29, .ref z30, .ref z31, .ref z32, .ref z33, .int n34, .long n35, .ref z36, .ref z37, .ref z38, .ref z39, .ref z40, .ref z41, .ref z42, .ref z43, .ref z44, .ref z45, .ref z46, .ref z47, .ref z48, .int n49, .int n50, .int n51, .int n52, .int n53, .int n54, .ref z55, .ref z56, .int n57, .int n58, .ref z59, .ref z60, .ref z61, .int n62, .long n63])), (z10, .inl (γ.2.1 0, 10, .inl ab))] (fun r w1 => r = some (.int 0) ∧ w1 = [(z, .inr (11, [.int n0, .int n1, .ref z2, .int n3, .int n4, .int n5, .int n6, .long n7, .int n8, .int n9, .ref z10, .ref z11, .ref z12, .ref z13, .ref z14, .ref z15, .ref z16, .ref z17, .ref z18, .ref z19, .int n20, .int n21, .ref z22, .ref z23, .ref z24, .ref z25, .ref z26, .ref z27, .ref z28, .ref z29, .ref z30, .ref z31, .ref z32, .ref z33, .int n34, .long n35, .ref z36, .ref z37, .ref z38, .ref z39, .ref z40, .ref z41, .ref z42, .ref z43, .ref z44, .ref z45, .ref z46, .ref z47, .ref z48, .int n49, .int n50, .int n51, .int n52, .int n53, .int n54, .ref z55, .ref z56, .int n57, .int n58, .ref z59, .ref z60, .ref z61, .int n62, .long n63])), (z10, .inl (γ.2.1 0, 10, .inl ab))]) := by
  refine k_ofW (by decide) (Nat.le_of_ble_eq_true rfl) ?_
  intro p9 e s m below meth c A ls hC hr hlocks hname hw hl
  have hx := hC.1
  have hb := hC.2.1
  have hl : lv_has ls 2 [(0, .ref z), (1, .int th)] := hl
  refine lv_iload_n hx hb dX12_isThought_0 rfl (lv_at hl 1 rfl) ?_
  refine lv_if_lt (tgt := 18) hx hb dX12_isThought_1 (by decide) (fun _ => ?_) (fun h => absurd h1 h)
  refine lv_iconst (v := 0) hx hb dX12_isThought_18 (by decide) ?_
  exact k_zret hC hr hlocks rfl hw [0, 1] rfl rfl ⟨rfl, rfl⟩ (by decide) (by decide) dX12_isThought_19

set_option maxHeartbeats 4000000 in
set_option maxRecDepth 100000 in
theorem c_X12_isTh_hi (γ : kΓ) (l : Launch) (z : Nat) (z2 : Nat) (z10 : Nat) (z11 : Nat) (z12 : Nat) (z13 : Nat) (z14 : Nat) (z15 : Nat) (z16 : Nat) (z17 : Nat) (z18 : Nat) (z19 : Nat) (z22 : Nat) (z23 : Nat) (z24 : Nat) (z25 : Nat) (z26 : Nat) (z27 : Nat) (z28 : Nat) (z29 : Nat) (z30 : Nat) (z31 : Nat) (z32 : Nat) (z33 : Nat) (z36 : Nat) (z37 : Nat) (z38 : Nat) (z39 : Nat) (z40 : Nat) (z41 : Nat) (z42 : Nat) (z43 : Nat) (z44 : Nat) (z45 : Nat) (z46 : Nat) (z47 : Nat) (z48 : Nat) (z55 : Nat) (z56 : Nat) (z59 : Nat) (z60 : Nat) (z61 : Nat) (n0 : Int32) (n1 : Int32) (n3 : Int32) (n4 : Int32) (n5 : Int32) (n6 : Int32) (n7 : Int64) (n8 : Int32) (n9 : Int32) (n20 : Int32) (n21 : Int32) (n34 : Int32) (n35 : Int64) (n49 : Int32) (n50 : Int32) (n51 : Int32) (n52 : Int32) (n53 : Int32) (n54 : Int32) (n57 : Int32) (n58 : Int32) (n62 : Int32) (n63 : Int64) (ab : Nat → Int32) (T : Nat) (th : Int32) (h0 : ab 0 = nI T) (h1 : ¬ th < 0) (h2 : nI T ≤ th) : kM γ l yX12_isThought cX12_isThought 2 ((some .boolean)) ({ frames := 0, cells := 0, slots := 0, locals := 0 } : Room) [.ref z, .int th] [(z, .inr (11, [.int n0, .int n1, .ref z2, .int n3, .int n4, .int n5, .int n6, .long n7, .int n8, .int n9, .ref z10, .ref z11, .ref z12, .ref z13, .ref z14, .ref z15, .ref z16, .ref z17, .ref z18, .ref z19, .int n20, .int n21, .ref z22, .ref z23, .ref z24, .ref z25, .ref z26, .ref z27, .ref z28, .ref z29, .ref z30, .ref z31, .ref z32, .ref z33, .int n34, .long n35, .ref z36, .ref z37, .ref z38, .ref z39, .ref z40, .ref z41, .ref z42, .ref z43, .ref z44, .ref z45, .ref z46, .ref z47, .ref z48, .int n49, .int n50, .int n51, .int n52, .int n53, .int n54, .ref z55, .ref z56, .int n57, .int n58, .ref z59, .ref z60, .ref z61, .int n62, .long n63])), (z10, .inl (γ.2.1 0, 10, .inl ab))] (fun r w1 => r = some (.int 0) ∧ w1 = [(z, .inr (11, [.int n0, .int n1, .ref z2, .int n3, .int n4, .int n5, .int n6, .long n7, .int n8, .int n9, .ref z10, .ref z11, .ref z12, .ref z13, .ref z14, .ref z15, .ref z16, .ref z17, .ref z18, .ref z19, .int n20, .int n21, .ref z22, .ref z23, .ref z24, .ref z25, .ref z26, .ref z27, .ref z28, .ref z29, .ref z30, .ref z31, .ref z32, .ref z33, .int n34, .long n35, .ref z36, .ref z37, .ref z38, .ref z39, .ref z40, .ref z41, .ref z42, .ref z43, .ref z44, .ref z45, .ref z46, .ref z47, .ref z48, .int n49, .int n50, .int n51, .int n52, .int n53, .int n54, .ref z55, .ref z56, .int n57, .int n58, .ref z59, .ref z60, .ref z61, .int n62, .long n63])), (z10, .inl (γ.2.1 0, 10, .inl ab))]) := by
  refine k_ofW (by decide) (Nat.le_of_ble_eq_true rfl) ?_
  intro p9 e s m below meth c A ls hC hr hlocks hname hw hl
  have hx := hC.1
  have hb := hC.2.1
  have hl : lv_has ls 2 [(0, .ref z), (1, .int th)] := hl
  refine lv_iload_n hx hb dX12_isThought_0 rfl (lv_at hl 1 rfl) ?_
  refine lv_if_lt (tgt := 18) hx hb dX12_isThought_1 (by decide) (fun h => absurd h h1) (fun _ => ?_)
  refine lv_iload_n hx hb dX12_isThought_4 rfl (lv_at hl 1 rfl) ?_
  refine lv_aload_n hx hb dX12_isThought_5 rfl (lv_at hl 0 rfl) ?_
  refine fg_RX12_13 hC hw 0 rfl rfl dX12_isThought_6 ?_
  refine lv_iconst (v := 0) hx hb dX12_isThought_9 (by decide) ?_
  refine k_iald hC hw 1 rfl (k_in0 (by decide)) dX12_isThought_10 ?_
  refine lv_topi (fun x_111 ex_111 => ?_)
  obtain rfl : x_111 = (nI T) := (show x_111 = ab 0 from ex_111).trans h0
  refine lv_icmp_ge (tgt := 18) hx hb dX12_isThought_11 (by decide) (fun _ => ?_) (fun h => absurd h2 h)
  refine lv_iconst (v := 0) hx hb dX12_isThought_18 (by decide) ?_
  exact k_zret hC hr hlocks rfl hw [0, 1] rfl rfl ⟨rfl, rfl⟩ (by decide) (by decide) dX12_isThought_19

set_option maxHeartbeats 4000000 in
set_option maxRecDepth 100000 in
theorem c_X12_isTh_in (γ : kΓ) (l : Launch) (z : Nat) (z2 : Nat) (z10 : Nat) (z11 : Nat) (z12 : Nat) (z13 : Nat) (z14 : Nat) (z15 : Nat) (z16 : Nat) (z17 : Nat) (z18 : Nat) (z19 : Nat) (z22 : Nat) (z23 : Nat) (z24 : Nat) (z25 : Nat) (z26 : Nat) (z27 : Nat) (z28 : Nat) (z29 : Nat) (z30 : Nat) (z31 : Nat) (z32 : Nat) (z33 : Nat) (z36 : Nat) (z37 : Nat) (z38 : Nat) (z39 : Nat) (z40 : Nat) (z41 : Nat) (z42 : Nat) (z43 : Nat) (z44 : Nat) (z45 : Nat) (z46 : Nat) (z47 : Nat) (z48 : Nat) (z55 : Nat) (z56 : Nat) (z59 : Nat) (z60 : Nat) (z61 : Nat) (n0 : Int32) (n1 : Int32) (n3 : Int32) (n4 : Int32) (n5 : Int32) (n6 : Int32) (n7 : Int64) (n8 : Int32) (n9 : Int32) (n20 : Int32) (n21 : Int32) (n34 : Int32) (n35 : Int64) (n49 : Int32) (n50 : Int32) (n51 : Int32) (n52 : Int32) (n53 : Int32) (n54 : Int32) (n57 : Int32) (n58 : Int32) (n62 : Int32) (n63 : Int64) (ab : Nat → Int32) (T : Nat) (t : Nat) (h0 : ab 0 = nI T) (hT : T ≤ 8) (ht : t < T) : kM γ l yX12_isThought cX12_isThought 2 ((some .boolean)) ({ frames := 0, cells := 0, slots := 0, locals := 0 } : Room) [.ref z, .int (nI t)] [(z, .inr (11, [.int n0, .int n1, .ref z2, .int n3, .int n4, .int n5, .int n6, .long n7, .int n8, .int n9, .ref z10, .ref z11, .ref z12, .ref z13, .ref z14, .ref z15, .ref z16, .ref z17, .ref z18, .ref z19, .int n20, .int n21, .ref z22, .ref z23, .ref z24, .ref z25, .ref z26, .ref z27, .ref z28, .ref z29, .ref z30, .ref z31, .ref z32, .ref z33, .int n34, .long n35, .ref z36, .ref z37, .ref z38, .ref z39, .ref z40, .ref z41, .ref z42, .ref z43, .ref z44, .ref z45, .ref z46, .ref z47, .ref z48, .int n49, .int n50, .int n51, .int n52, .int n53, .int n54, .ref z55, .ref z56, .int n57, .int n58, .ref z59, .ref z60, .ref z61, .int n62, .long n63])), (z10, .inl (γ.2.1 0, 10, .inl ab))] (fun r w1 => r = some (.int 1) ∧ w1 = [(z, .inr (11, [.int n0, .int n1, .ref z2, .int n3, .int n4, .int n5, .int n6, .long n7, .int n8, .int n9, .ref z10, .ref z11, .ref z12, .ref z13, .ref z14, .ref z15, .ref z16, .ref z17, .ref z18, .ref z19, .int n20, .int n21, .ref z22, .ref z23, .ref z24, .ref z25, .ref z26, .ref z27, .ref z28, .ref z29, .ref z30, .ref z31, .ref z32, .ref z33, .int n34, .long n35, .ref z36, .ref z37, .ref z38, .ref z39, .ref z40, .ref z41, .ref z42, .ref z43, .ref z44, .ref z45, .ref z46, .ref z47, .ref z48, .int n49, .int n50, .int n51, .int n52, .int n53, .int n54, .ref z55, .ref z56, .int n57, .int n58, .ref z59, .ref z60, .ref z61, .int n62, .long n63])), (z10, .inl (γ.2.1 0, 10, .inl ab))]) := by
  refine k_ofW (by decide) (Nat.le_of_ble_eq_true rfl) ?_
  intro p9 e s m below meth c A ls hC hr hlocks hname hw hl
  have hx := hC.1
  have hb := hC.2.1
  have hl : lv_has ls 2 [(0, .ref z), (1, .int (nI t))] := hl
  refine lv_iload_n hx hb dX12_isThought_0 rfl (lv_at hl 1 rfl) ?_
  refine lv_if_lt (tgt := 18) hx hb dX12_isThought_1 (by decide) (fun h => absurd h (nI_n0 (by omega))) (fun _ => ?_)
  refine lv_iload_n hx hb dX12_isThought_4 rfl (lv_at hl 1 rfl) ?_
  refine lv_aload_n hx hb dX12_isThought_5 rfl (lv_at hl 0 rfl) ?_
  refine fg_RX12_13 hC hw 0 rfl rfl dX12_isThought_6 ?_
  refine lv_iconst (v := 0) hx hb dX12_isThought_9 (by decide) ?_
  refine k_iald hC hw 1 rfl (k_in0 (by decide)) dX12_isThought_10 ?_
  refine lv_topi (fun x_112 ex_112 => ?_)
  obtain rfl : x_112 = (nI T) := (show x_112 = ab 0 from ex_112).trans h0
  refine lv_icmp_ge (tgt := 18) hx hb dX12_isThought_11 (by decide) (fun h => absurd h (nI_ge ht (by omega))) (fun _ => ?_)
  refine lv_iconst (v := 1) hx hb dX12_isThought_14 (by decide) ?_
  refine lv_goto (tgt := 19) hx hb dX12_isThought_15 (by decide) ?_
  exact k_zret hC hr hlocks rfl hw [0, 1] rfl rfl ⟨rfl, rfl⟩ (by decide) (by decide) dX12_isThought_19

set_option maxHeartbeats 4000000 in
set_option maxRecDepth 100000 in
theorem c_gu_lo (γ : kΓ) (l : Launch) (x : Nat) (x0 : Nat) (x1 : Nat) (x2 : Nat) (x3 : Nat) (x4 : Nat) (x5 : Nat) (x6 : Nat) (x7 : Nat) (x8 : Nat) (x9 : Nat) (x10 : Nat) (a0 : Nat) (a1 : Nat) (a2 : Nat) (a3 : Nat) (a4 : Nat) (a5 : Nat) (a6 : Nat) (a7 : Nat) (T : Nat) (t9 : Int32) (t10 : Int32) (t11 : Int32) (t12 : Int32) (t13 : Int32) (t14 : Int32) (t15 : Int32) (t16 : Int32) (t17 : Int32) (t18 : Int32) (st9 : Nat) (yr9 : Nat) (ag9 : Nat) (li9 : Int32) (la9 : Int32) (gf : Nat → Int32) (gu : Int32) (th : Int32) (b : Int32) (h1 : th < 0) : kM γ l yX11_guess cX11_guess 3 ((some .boolean)) ({ frames := 1, cells := 0, slots := 0, locals := 21 } : Room) [.ref x, .int th, .int b] [(x, .inr (10, [.ref x0, .ref x1, .ref x2, .ref x3, .ref x4, .ref x5, .ref x6, .ref x7, .ref x8, .ref x9, .ref x10])), (x9, .inr (0, [.ref a0, .ref a1, .ref a2, .ref a3, .ref a4, .ref a5, .ref a6, .ref a7, .int (nI T), .int t9, .int t10, .int t11, .int t12, .int t13, .int t14, .int t15, .int t16, .int t17, .int t18])), (x2, .inr (3, [.ref st9, .ref yr9, .ref ag9, .int li9, .int gu, .int la9])), (ag9, .inl (γ.2.1 0, 8, .inl gf))] (fun r w1 => r = some (.int 0) ∧ w1 = [(x, .inr (10, [.ref x0, .ref x1, .ref x2, .ref x3, .ref x4, .ref x5, .ref x6, .ref x7, .ref x8, .ref x9, .ref x10])), (x9, .inr (0, [.ref a0, .ref a1, .ref a2, .ref a3, .ref a4, .ref a5, .ref a6, .ref a7, .int (nI T), .int t9, .int t10, .int t11, .int t12, .int t13, .int t14, .int t15, .int t16, .int t17, .int t18])), (x2, .inr (3, [.ref st9, .ref yr9, .ref ag9, .int li9, .int gu, .int la9])), (ag9, .inl (γ.2.1 0, 8, .inl gf))]) := by
  refine k_ofW (by decide) (Nat.le_of_ble_eq_true rfl) ?_
  intro p9 e s m below meth c A ls hC hr hlocks hname hw hl
  have hx := hC.1
  have hb := hC.2.1
  have hl : lv_has ls 3 [(0, .ref x), (1, .int th), (2, .int b)] := hl
  refine lv_aload_n hx hb dX11_guess_0 rfl (lv_at hl 0 rfl) ?_
  refine lv_iload_n hx hb dX11_guess_1 rfl (lv_at hl 1 rfl) ?_
  refine k_V (wr := [(x2, .inr (3, [.ref st9, .ref yr9, .ref ag9, .int li9, .int gu, .int la9])), (ag9, .inl (γ.2.1 0, 8, .inl gf))]) 1 gw_697 gw_699 gp_24 gw_1 gw_700 hd_X11_isThought hC hw (c_X11_isTh_lo γ l x x0 x1 x2 x3 x4 x5 x6 x7 x8 x9 x10 a0 a1 a2 a3 a4 a5 a6 a7 T t9 t10 t11 t12 t13 t14 t15 t16 t17 t18 th h1) ⟨by decide, by decide⟩ ⟨by decide, by decide⟩ hl.1 rfl 0 rfl rfl rfl (Nat.le_of_ble_eq_true rfl) [0, 1] [2, 3] rfl rfl rfl rfl (by decide) dX11_guess_2 (fun r w1 H locs hq hw => ?_)
  obtain ⟨rfl, rfl⟩ := hq
  have hw : kW γ A [(x2, .inr (3, [.ref st9, .ref yr9, .ref ag9, .int li9, .int gu, .int la9])), (ag9, .inl (γ.2.1 0, 8, .inl gf)), (x, .inr (10, [.ref x0, .ref x1, .ref x2, .ref x3, .ref x4, .ref x5, .ref x6, .ref x7, .ref x8, .ref x9, .ref x10])), (x9, .inr (0, [.ref a0, .ref a1, .ref a2, .ref a3, .ref a4, .ref a5, .ref a6, .ref a7, .int (nI T), .int t9, .int t10, .int t11, .int t12, .int t13, .int t14, .int t15, .int t16, .int t17, .int t18]))] s H locs := hw
  refine W.eq (g2 := F0 m 5 ls [.int 0]) rfl ?_
  refine lv_if_eq (tgt := 20) hx hb dX11_guess_5 (by decide) (fun _ => ?_) (fun h => absurd (by decide) h)
  refine lv_iconst (v := 0) hx hb dX11_guess_20 (by decide) ?_
  exact k_zret hC hr hlocks rfl hw [2, 3, 0, 1] rfl rfl ⟨rfl, rfl⟩ (by decide) (by decide) dX11_guess_21

set_option maxHeartbeats 4000000 in
set_option maxRecDepth 100000 in
theorem c_gu_hi (γ : kΓ) (l : Launch) (x : Nat) (x0 : Nat) (x1 : Nat) (x2 : Nat) (x3 : Nat) (x4 : Nat) (x5 : Nat) (x6 : Nat) (x7 : Nat) (x8 : Nat) (x9 : Nat) (x10 : Nat) (a0 : Nat) (a1 : Nat) (a2 : Nat) (a3 : Nat) (a4 : Nat) (a5 : Nat) (a6 : Nat) (a7 : Nat) (T : Nat) (t9 : Int32) (t10 : Int32) (t11 : Int32) (t12 : Int32) (t13 : Int32) (t14 : Int32) (t15 : Int32) (t16 : Int32) (t17 : Int32) (t18 : Int32) (st9 : Nat) (yr9 : Nat) (ag9 : Nat) (li9 : Int32) (la9 : Int32) (gf : Nat → Int32) (gu : Int32) (th : Int32) (b : Int32) (h1 : ¬ th < 0) (h2 : nI T ≤ th) : kM γ l yX11_guess cX11_guess 3 ((some .boolean)) ({ frames := 1, cells := 0, slots := 0, locals := 21 } : Room) [.ref x, .int th, .int b] [(x, .inr (10, [.ref x0, .ref x1, .ref x2, .ref x3, .ref x4, .ref x5, .ref x6, .ref x7, .ref x8, .ref x9, .ref x10])), (x9, .inr (0, [.ref a0, .ref a1, .ref a2, .ref a3, .ref a4, .ref a5, .ref a6, .ref a7, .int (nI T), .int t9, .int t10, .int t11, .int t12, .int t13, .int t14, .int t15, .int t16, .int t17, .int t18])), (x2, .inr (3, [.ref st9, .ref yr9, .ref ag9, .int li9, .int gu, .int la9])), (ag9, .inl (γ.2.1 0, 8, .inl gf))] (fun r w1 => r = some (.int 0) ∧ w1 = [(x, .inr (10, [.ref x0, .ref x1, .ref x2, .ref x3, .ref x4, .ref x5, .ref x6, .ref x7, .ref x8, .ref x9, .ref x10])), (x9, .inr (0, [.ref a0, .ref a1, .ref a2, .ref a3, .ref a4, .ref a5, .ref a6, .ref a7, .int (nI T), .int t9, .int t10, .int t11, .int t12, .int t13, .int t14, .int t15, .int t16, .int t17, .int t18])), (x2, .inr (3, [.ref st9, .ref yr9, .ref ag9, .int li9, .int gu, .int la9])), (ag9, .inl (γ.2.1 0, 8, .inl gf))]) := by
  refine k_ofW (by decide) (Nat.le_of_ble_eq_true rfl) ?_
  intro p9 e s m below meth c A ls hC hr hlocks hname hw hl
  have hx := hC.1
  have hb := hC.2.1
  have hl : lv_has ls 3 [(0, .ref x), (1, .int th), (2, .int b)] := hl
  refine lv_aload_n hx hb dX11_guess_0 rfl (lv_at hl 0 rfl) ?_
  refine lv_iload_n hx hb dX11_guess_1 rfl (lv_at hl 1 rfl) ?_
  refine k_V (wr := [(x2, .inr (3, [.ref st9, .ref yr9, .ref ag9, .int li9, .int gu, .int la9])), (ag9, .inl (γ.2.1 0, 8, .inl gf))]) 1 gw_697 gw_699 gp_24 gw_1 gw_700 hd_X11_isThought hC hw (c_X11_isTh_hi γ l x x0 x1 x2 x3 x4 x5 x6 x7 x8 x9 x10 a0 a1 a2 a3 a4 a5 a6 a7 T t9 t10 t11 t12 t13 t14 t15 t16 t17 t18 th h1 h2) ⟨by decide, by decide⟩ ⟨by decide, by decide⟩ hl.1 rfl 0 rfl rfl rfl (Nat.le_of_ble_eq_true rfl) [0, 1] [2, 3] rfl rfl rfl rfl (by decide) dX11_guess_2 (fun r w1 H locs hq hw => ?_)
  obtain ⟨rfl, rfl⟩ := hq
  have hw : kW γ A [(x2, .inr (3, [.ref st9, .ref yr9, .ref ag9, .int li9, .int gu, .int la9])), (ag9, .inl (γ.2.1 0, 8, .inl gf)), (x, .inr (10, [.ref x0, .ref x1, .ref x2, .ref x3, .ref x4, .ref x5, .ref x6, .ref x7, .ref x8, .ref x9, .ref x10])), (x9, .inr (0, [.ref a0, .ref a1, .ref a2, .ref a3, .ref a4, .ref a5, .ref a6, .ref a7, .int (nI T), .int t9, .int t10, .int t11, .int t12, .int t13, .int t14, .int t15, .int t16, .int t17, .int t18]))] s H locs := hw
  refine W.eq (g2 := F0 m 5 ls [.int 0]) rfl ?_
  refine lv_if_eq (tgt := 20) hx hb dX11_guess_5 (by decide) (fun _ => ?_) (fun h => absurd (by decide) h)
  refine lv_iconst (v := 0) hx hb dX11_guess_20 (by decide) ?_
  exact k_zret hC hr hlocks rfl hw [2, 3, 0, 1] rfl rfl ⟨rfl, rfl⟩ (by decide) (by decide) dX11_guess_21

set_option maxHeartbeats 4000000 in
set_option maxRecDepth 100000 in
theorem c_gu_full (γ : kΓ) (l : Launch) (x : Nat) (x0 : Nat) (x1 : Nat) (x2 : Nat) (x3 : Nat) (x4 : Nat) (x5 : Nat) (x6 : Nat) (x7 : Nat) (x8 : Nat) (x9 : Nat) (x10 : Nat) (a0 : Nat) (a1 : Nat) (a2 : Nat) (a3 : Nat) (a4 : Nat) (a5 : Nat) (a6 : Nat) (a7 : Nat) (T : Nat) (t9 : Int32) (t10 : Int32) (t11 : Int32) (t12 : Int32) (t13 : Int32) (t14 : Int32) (t15 : Int32) (t16 : Int32) (t17 : Int32) (t18 : Int32) (st9 : Nat) (yr9 : Nat) (ag9 : Nat) (li9 : Int32) (la9 : Int32) (gf : Nat → Int32) (t : Nat) (G : Nat) (b : Int32) (hT : T ≤ 8) (ht : t < T) (hG : ¬ nI G < 8) : kM γ l yX11_guess cX11_guess 3 ((some .boolean)) ({ frames := 1, cells := 0, slots := 0, locals := 21 } : Room) [.ref x, .int (nI t), .int b] [(x, .inr (10, [.ref x0, .ref x1, .ref x2, .ref x3, .ref x4, .ref x5, .ref x6, .ref x7, .ref x8, .ref x9, .ref x10])), (x9, .inr (0, [.ref a0, .ref a1, .ref a2, .ref a3, .ref a4, .ref a5, .ref a6, .ref a7, .int (nI T), .int t9, .int t10, .int t11, .int t12, .int t13, .int t14, .int t15, .int t16, .int t17, .int t18])), (x2, .inr (3, [.ref st9, .ref yr9, .ref ag9, .int li9, .int (nI G), .int la9])), (ag9, .inl (γ.2.1 0, 8, .inl gf))] (fun r w1 => r = some (.int 0) ∧ w1 = [(x, .inr (10, [.ref x0, .ref x1, .ref x2, .ref x3, .ref x4, .ref x5, .ref x6, .ref x7, .ref x8, .ref x9, .ref x10])), (x9, .inr (0, [.ref a0, .ref a1, .ref a2, .ref a3, .ref a4, .ref a5, .ref a6, .ref a7, .int (nI T), .int t9, .int t10, .int t11, .int t12, .int t13, .int t14, .int t15, .int t16, .int t17, .int t18])), (x2, .inr (3, [.ref st9, .ref yr9, .ref ag9, .int li9, .int (nI G), .int la9])), (ag9, .inl (γ.2.1 0, 8, .inl gf))]) := by
  refine k_ofW (by decide) (Nat.le_of_ble_eq_true rfl) ?_
  intro p9 e s m below meth c A ls hC hr hlocks hname hw hl
  have hx := hC.1
  have hb := hC.2.1
  have hl : lv_has ls 3 [(0, .ref x), (1, .int (nI t)), (2, .int b)] := hl
  refine lv_aload_n hx hb dX11_guess_0 rfl (lv_at hl 0 rfl) ?_
  refine lv_iload_n hx hb dX11_guess_1 rfl (lv_at hl 1 rfl) ?_
  refine k_V (wr := [(x2, .inr (3, [.ref st9, .ref yr9, .ref ag9, .int li9, .int (nI G), .int la9])), (ag9, .inl (γ.2.1 0, 8, .inl gf))]) 1 gw_697 gw_699 gp_24 gw_1 gw_700 hd_X11_isThought hC hw (c_X11_isTh_in γ l x x0 x1 x2 x3 x4 x5 x6 x7 x8 x9 x10 a0 a1 a2 a3 a4 a5 a6 a7 T t9 t10 t11 t12 t13 t14 t15 t16 t17 t18 t hT ht) ⟨by decide, by decide⟩ ⟨by decide, by decide⟩ hl.1 rfl 0 rfl rfl rfl (Nat.le_of_ble_eq_true rfl) [0, 1] [2, 3] rfl rfl rfl rfl (by decide) dX11_guess_2 (fun r w1 H locs hq hw => ?_)
  obtain ⟨rfl, rfl⟩ := hq
  have hw : kW γ A [(x2, .inr (3, [.ref st9, .ref yr9, .ref ag9, .int li9, .int (nI G), .int la9])), (ag9, .inl (γ.2.1 0, 8, .inl gf)), (x, .inr (10, [.ref x0, .ref x1, .ref x2, .ref x3, .ref x4, .ref x5, .ref x6, .ref x7, .ref x8, .ref x9, .ref x10])), (x9, .inr (0, [.ref a0, .ref a1, .ref a2, .ref a3, .ref a4, .ref a5, .ref a6, .ref a7, .int (nI T), .int t9, .int t10, .int t11, .int t12, .int t13, .int t14, .int t15, .int t16, .int t17, .int t18]))] s H locs := hw
  refine W.eq (g2 := F0 m 5 ls [.int 1]) rfl ?_
  refine lv_if_eq (tgt := 20) hx hb dX11_guess_5 (by decide) (fun h => absurd h (by decide)) (fun _ => ?_)
  refine lv_aload_n hx hb dX11_guess_8 rfl (lv_at hl 0 rfl) ?_
  refine fg_RX11_26 hC hw 2 rfl rfl dX11_guess_9 ?_
  refine fg_RX11_189 hC hw 0 rfl rfl dX11_guess_12 ?_
  refine lv_bipush (v := 8) hx hb dX11_guess_15 (by decide) ?_
  refine lv_icmp_lt (tgt := 22) hx hb dX11_guess_17 (by decide) (fun h => absurd h hG) (fun _ => ?_)
  refine lv_iconst (v := 0) hx hb dX11_guess_20 (by decide) ?_
  exact k_zret hC hr hlocks rfl hw [2, 3, 0, 1] rfl rfl ⟨rfl, rfl⟩ (by decide) (by decide) dX11_guess_21

set_option maxHeartbeats 4000000 in
set_option maxRecDepth 100000 in
theorem c_gu_ok0 (γ : kΓ) (l : Launch) (x : Nat) (x0 : Nat) (x1 : Nat) (x2 : Nat) (x3 : Nat) (x4 : Nat) (x5 : Nat) (x6 : Nat) (x7 : Nat) (x8 : Nat) (x9 : Nat) (x10 : Nat) (a0 : Nat) (a1 : Nat) (a2 : Nat) (a3 : Nat) (a4 : Nat) (a5 : Nat) (a6 : Nat) (a7 : Nat) (T : Nat) (t9 : Int32) (t10 : Int32) (t11 : Int32) (t12 : Int32) (t13 : Int32) (t14 : Int32) (t15 : Int32) (t16 : Int32) (t17 : Int32) (t18 : Int32) (st9 : Nat) (yr9 : Nat) (ag9 : Nat) (li9 : Int32) (la9 : Int32) (gf : Nat → Int32) (t : Nat) (G : Nat) (hT : T ≤ 8) (ht : t < T) (hG : G < 8) : kM γ l yX11_guess cX11_guess 3 ((some .boolean)) ({ frames := 1, cells := 0, slots := 0, locals := 21 } : Room) [.ref x, .int (nI t), .int 0] [(x, .inr (10, [.ref x0, .ref x1, .ref x2, .ref x3, .ref x4, .ref x5, .ref x6, .ref x7, .ref x8, .ref x9, .ref x10])), (x9, .inr (0, [.ref a0, .ref a1, .ref a2, .ref a3, .ref a4, .ref a5, .ref a6, .ref a7, .int (nI T), .int t9, .int t10, .int t11, .int t12, .int t13, .int t14, .int t15, .int t16, .int t17, .int t18])), (x2, .inr (3, [.ref st9, .ref yr9, .ref ag9, .int li9, .int (nI G), .int la9])), (ag9, .inl (γ.2.1 0, 8, .inl gf))] (fun r w1 => r = some (.int 1) ∧ w1 = [(x, .inr (10, [.ref x0, .ref x1, .ref x2, .ref x3, .ref x4, .ref x5, .ref x6, .ref x7, .ref x8, .ref x9, .ref x10])), (x9, .inr (0, [.ref a0, .ref a1, .ref a2, .ref a3, .ref a4, .ref a5, .ref a6, .ref a7, .int (nI T), .int t9, .int t10, .int t11, .int t12, .int t13, .int t14, .int t15, .int t16, .int t17, .int t18])), (x2, .inr (3, [.ref st9, .ref yr9, .ref ag9, .int li9, .int (nI (G + 1)), .int la9])), (ag9, .inl (γ.2.1 0, 8, .inl ((upd gf G ((nI t) * 2 + 0)))))]) := by
  refine k_ofW (by decide) (Nat.le_of_ble_eq_true rfl) ?_
  intro p9 e s m below meth c A ls hC hr hlocks hname hw hl
  have hx := hC.1
  have hb := hC.2.1
  have hl : lv_has ls 3 [(0, .ref x), (1, .int (nI t)), (2, .int 0)] := hl
  refine lv_aload_n hx hb dX11_guess_0 rfl (lv_at hl 0 rfl) ?_
  refine lv_iload_n hx hb dX11_guess_1 rfl (lv_at hl 1 rfl) ?_
  refine k_V (wr := [(x2, .inr (3, [.ref st9, .ref yr9, .ref ag9, .int li9, .int (nI G), .int la9])), (ag9, .inl (γ.2.1 0, 8, .inl gf))]) 1 gw_697 gw_699 gp_24 gw_1 gw_700 hd_X11_isThought hC hw (c_X11_isTh_in γ l x x0 x1 x2 x3 x4 x5 x6 x7 x8 x9 x10 a0 a1 a2 a3 a4 a5 a6 a7 T t9 t10 t11 t12 t13 t14 t15 t16 t17 t18 t hT ht) ⟨by decide, by decide⟩ ⟨by decide, by decide⟩ hl.1 rfl 0 rfl rfl rfl (Nat.le_of_ble_eq_true rfl) [0, 1] [2, 3] rfl rfl rfl rfl (by decide) dX11_guess_2 (fun r w1 H locs hq hw => ?_)
  obtain ⟨rfl, rfl⟩ := hq
  have hw : kW γ A [(x2, .inr (3, [.ref st9, .ref yr9, .ref ag9, .int li9, .int (nI G), .int la9])), (ag9, .inl (γ.2.1 0, 8, .inl gf)), (x, .inr (10, [.ref x0, .ref x1, .ref x2, .ref x3, .ref x4, .ref x5, .ref x6, .ref x7, .ref x8, .ref x9, .ref x10])), (x9, .inr (0, [.ref a0, .ref a1, .ref a2, .ref a3, .ref a4, .ref a5, .ref a6, .ref a7, .int (nI T), .int t9, .int t10, .int t11, .int t12, .int t13, .int t14, .int t15, .int t16, .int t17, .int t18]))] s H locs := hw
  refine W.eq (g2 := F0 m 5 ls [.int 1]) rfl ?_
  refine lv_if_eq (tgt := 20) hx hb dX11_guess_5 (by decide) (fun h => absurd h (by decide)) (fun _ => ?_)
  refine lv_aload_n hx hb dX11_guess_8 rfl (lv_at hl 0 rfl) ?_
  refine fg_RX11_26 hC hw 2 rfl rfl dX11_guess_9 ?_
  refine fg_RX11_189 hC hw 0 rfl rfl dX11_guess_12 ?_
  refine lv_bipush (v := 8) hx hb dX11_guess_15 (by decide) ?_
  refine lv_icmp_lt (tgt := 22) hx hb dX11_guess_17 (by decide) (fun _ => ?_) (fun h => absurd (nI_lt8 hG) h)
  refine lv_aload_n hx hb dX11_guess_22 rfl (lv_at hl 0 rfl) ?_
  refine fg_RX11_26 hC hw 2 rfl rfl dX11_guess_23 ?_
  refine fg_RX11_311 hC hw 0 rfl rfl dX11_guess_26 ?_
  refine lv_aload_n hx hb dX11_guess_29 rfl (lv_at hl 0 rfl) ?_
  refine fg_RX11_26 hC hw 2 rfl rfl dX11_guess_30 ?_
  refine fg_RX11_189 hC hw 0 rfl rfl dX11_guess_33 ?_
  refine lv_iload_n hx hb dX11_guess_36 rfl (lv_at hl 1 rfl) ?_
  refine lv_iconst (v := 2) hx hb dX11_guess_37 (by decide) ?_
  refine lv_imul hx hb dX11_guess_38 ?_
  refine lv_iload_n hx hb dX11_guess_39 rfl (lv_at hl 2 rfl) ?_
  refine lv_if_eq (tgt := 47) hx hb dX11_guess_40 (by decide) (fun _ => ?_) (fun h => absurd (by decide) h)
  refine lv_iconst (v := 0) hx hb dX11_guess_47 (by decide) ?_
  refine lv_iadd hx hb dX11_guess_48 ?_
  refine lv_topi (fun x_113 ex_113 => ?_)
  obtain rfl : x_113 = ((nI t) * 2 + 0) := ex_113.trans rfl
  refine k_iast hC hw 1 rfl (vp_in_nI hG (by decide)) dX11_guess_49 (fun H locs hw => ?_)
  obtain ⟨f_114, ef_114⟩ : ∃ g, g = upd gf ((nI G) : Int32).toNatClampNeg ((nI t) * 2 + 0) := ⟨_, rfl⟩
  have hw : kW γ A [(x2, .inr (3, [.ref st9, .ref yr9, .ref ag9, .int li9, .int (nI G), .int la9])), (ag9, .inl (γ.2.1 0, 8, .inl f_114)), (x, .inr (10, [.ref x0, .ref x1, .ref x2, .ref x3, .ref x4, .ref x5, .ref x6, .ref x7, .ref x8, .ref x9, .ref x10])), (x9, .inr (0, [.ref a0, .ref a1, .ref a2, .ref a3, .ref a4, .ref a5, .ref a6, .ref a7, .int (nI T), .int t9, .int t10, .int t11, .int t12, .int t13, .int t14, .int t15, .int t16, .int t17, .int t18]))] s H locs := by rw [ef_114]; exact hw
  have hE : f_114 = (upd gf G ((nI t) * 2 + 0)) := ef_114.trans (by rw [nI_clamp (by omega)])
  rw [hE] at hw
  have hw : kW γ A [(x2, .inr (3, [.ref st9, .ref yr9, .ref ag9, .int li9, .int (nI G), .int la9])), (ag9, .inl (γ.2.1 0, 8, .inl ((upd gf G ((nI t) * 2 + 0))))), (x, .inr (10, [.ref x0, .ref x1, .ref x2, .ref x3, .ref x4, .ref x5, .ref x6, .ref x7, .ref x8, .ref x9, .ref x10])), (x9, .inr (0, [.ref a0, .ref a1, .ref a2, .ref a3, .ref a4, .ref a5, .ref a6, .ref a7, .int (nI T), .int t9, .int t10, .int t11, .int t12, .int t13, .int t14, .int t15, .int t16, .int t17, .int t18]))] s H locs := hw
  refine lv_aload_n hx hb dX11_guess_50 rfl (lv_at hl 0 rfl) ?_
  refine fg_RX11_26 hC hw 2 rfl rfl dX11_guess_51 ?_
  refine lv_dup hx hb dX11_guess_54 rfl ?_
  refine fg_RX11_189 hC hw 0 rfl rfl dX11_guess_55 ?_
  refine lv_iconst (v := 1) hx hb dX11_guess_58 (by decide) ?_
  refine lv_iadd hx hb dX11_guess_59 ?_
  refine lv_topi (fun x_115 ex_115 => ?_)
  obtain rfl : x_115 = (nI (G + 1)) := ex_115.trans (nI_1 G)
  refine fs_RX11_189 hC hw 0 rfl rfl rfl (Nat.le_of_ble_eq_true rfl) dX11_guess_60 (fun H locs hw => ?_)
  have hw : kW γ A [(x2, .inr (3, [.ref st9, .ref yr9, .ref ag9, .int li9, .int (nI (G + 1)), .int la9])), (ag9, .inl (γ.2.1 0, 8, .inl ((upd gf G ((nI t) * 2 + 0))))), (x, .inr (10, [.ref x0, .ref x1, .ref x2, .ref x3, .ref x4, .ref x5, .ref x6, .ref x7, .ref x8, .ref x9, .ref x10])), (x9, .inr (0, [.ref a0, .ref a1, .ref a2, .ref a3, .ref a4, .ref a5, .ref a6, .ref a7, .int (nI T), .int t9, .int t10, .int t11, .int t12, .int t13, .int t14, .int t15, .int t16, .int t17, .int t18]))] s H locs := hw
  refine lv_iconst (v := 1) hx hb dX11_guess_63 (by decide) ?_
  exact k_zret hC hr hlocks rfl hw [2, 3, 0, 1] rfl rfl ⟨rfl, rfl⟩ (by decide) (by decide) dX11_guess_64

set_option maxHeartbeats 4000000 in
set_option maxRecDepth 100000 in
theorem c_gu_ok1 (γ : kΓ) (l : Launch) (x : Nat) (x0 : Nat) (x1 : Nat) (x2 : Nat) (x3 : Nat) (x4 : Nat) (x5 : Nat) (x6 : Nat) (x7 : Nat) (x8 : Nat) (x9 : Nat) (x10 : Nat) (a0 : Nat) (a1 : Nat) (a2 : Nat) (a3 : Nat) (a4 : Nat) (a5 : Nat) (a6 : Nat) (a7 : Nat) (T : Nat) (t9 : Int32) (t10 : Int32) (t11 : Int32) (t12 : Int32) (t13 : Int32) (t14 : Int32) (t15 : Int32) (t16 : Int32) (t17 : Int32) (t18 : Int32) (st9 : Nat) (yr9 : Nat) (ag9 : Nat) (li9 : Int32) (la9 : Int32) (gf : Nat → Int32) (t : Nat) (G : Nat) (hT : T ≤ 8) (ht : t < T) (hG : G < 8) : kM γ l yX11_guess cX11_guess 3 ((some .boolean)) ({ frames := 1, cells := 0, slots := 0, locals := 21 } : Room) [.ref x, .int (nI t), .int 1] [(x, .inr (10, [.ref x0, .ref x1, .ref x2, .ref x3, .ref x4, .ref x5, .ref x6, .ref x7, .ref x8, .ref x9, .ref x10])), (x9, .inr (0, [.ref a0, .ref a1, .ref a2, .ref a3, .ref a4, .ref a5, .ref a6, .ref a7, .int (nI T), .int t9, .int t10, .int t11, .int t12, .int t13, .int t14, .int t15, .int t16, .int t17, .int t18])), (x2, .inr (3, [.ref st9, .ref yr9, .ref ag9, .int li9, .int (nI G), .int la9])), (ag9, .inl (γ.2.1 0, 8, .inl gf))] (fun r w1 => r = some (.int 1) ∧ w1 = [(x, .inr (10, [.ref x0, .ref x1, .ref x2, .ref x3, .ref x4, .ref x5, .ref x6, .ref x7, .ref x8, .ref x9, .ref x10])), (x9, .inr (0, [.ref a0, .ref a1, .ref a2, .ref a3, .ref a4, .ref a5, .ref a6, .ref a7, .int (nI T), .int t9, .int t10, .int t11, .int t12, .int t13, .int t14, .int t15, .int t16, .int t17, .int t18])), (x2, .inr (3, [.ref st9, .ref yr9, .ref ag9, .int li9, .int (nI (G + 1)), .int la9])), (ag9, .inl (γ.2.1 0, 8, .inl ((upd gf G ((nI t) * 2 + 1)))))]) := by
  refine k_ofW (by decide) (Nat.le_of_ble_eq_true rfl) ?_
  intro p9 e s m below meth c A ls hC hr hlocks hname hw hl
  have hx := hC.1
  have hb := hC.2.1
  have hl : lv_has ls 3 [(0, .ref x), (1, .int (nI t)), (2, .int 1)] := hl
  refine lv_aload_n hx hb dX11_guess_0 rfl (lv_at hl 0 rfl) ?_
  refine lv_iload_n hx hb dX11_guess_1 rfl (lv_at hl 1 rfl) ?_
  refine k_V (wr := [(x2, .inr (3, [.ref st9, .ref yr9, .ref ag9, .int li9, .int (nI G), .int la9])), (ag9, .inl (γ.2.1 0, 8, .inl gf))]) 1 gw_697 gw_699 gp_24 gw_1 gw_700 hd_X11_isThought hC hw (c_X11_isTh_in γ l x x0 x1 x2 x3 x4 x5 x6 x7 x8 x9 x10 a0 a1 a2 a3 a4 a5 a6 a7 T t9 t10 t11 t12 t13 t14 t15 t16 t17 t18 t hT ht) ⟨by decide, by decide⟩ ⟨by decide, by decide⟩ hl.1 rfl 0 rfl rfl rfl (Nat.le_of_ble_eq_true rfl) [0, 1] [2, 3] rfl rfl rfl rfl (by decide) dX11_guess_2 (fun r w1 H locs hq hw => ?_)
  obtain ⟨rfl, rfl⟩ := hq
  have hw : kW γ A [(x2, .inr (3, [.ref st9, .ref yr9, .ref ag9, .int li9, .int (nI G), .int la9])), (ag9, .inl (γ.2.1 0, 8, .inl gf)), (x, .inr (10, [.ref x0, .ref x1, .ref x2, .ref x3, .ref x4, .ref x5, .ref x6, .ref x7, .ref x8, .ref x9, .ref x10])), (x9, .inr (0, [.ref a0, .ref a1, .ref a2, .ref a3, .ref a4, .ref a5, .ref a6, .ref a7, .int (nI T), .int t9, .int t10, .int t11, .int t12, .int t13, .int t14, .int t15, .int t16, .int t17, .int t18]))] s H locs := hw
  refine W.eq (g2 := F0 m 5 ls [.int 1]) rfl ?_
  refine lv_if_eq (tgt := 20) hx hb dX11_guess_5 (by decide) (fun h => absurd h (by decide)) (fun _ => ?_)
  refine lv_aload_n hx hb dX11_guess_8 rfl (lv_at hl 0 rfl) ?_
  refine fg_RX11_26 hC hw 2 rfl rfl dX11_guess_9 ?_
  refine fg_RX11_189 hC hw 0 rfl rfl dX11_guess_12 ?_
  refine lv_bipush (v := 8) hx hb dX11_guess_15 (by decide) ?_
  refine lv_icmp_lt (tgt := 22) hx hb dX11_guess_17 (by decide) (fun _ => ?_) (fun h => absurd (nI_lt8 hG) h)
  refine lv_aload_n hx hb dX11_guess_22 rfl (lv_at hl 0 rfl) ?_
  refine fg_RX11_26 hC hw 2 rfl rfl dX11_guess_23 ?_
  refine fg_RX11_311 hC hw 0 rfl rfl dX11_guess_26 ?_
  refine lv_aload_n hx hb dX11_guess_29 rfl (lv_at hl 0 rfl) ?_
  refine fg_RX11_26 hC hw 2 rfl rfl dX11_guess_30 ?_
  refine fg_RX11_189 hC hw 0 rfl rfl dX11_guess_33 ?_
  refine lv_iload_n hx hb dX11_guess_36 rfl (lv_at hl 1 rfl) ?_
  refine lv_iconst (v := 2) hx hb dX11_guess_37 (by decide) ?_
  refine lv_imul hx hb dX11_guess_38 ?_
  refine lv_iload_n hx hb dX11_guess_39 rfl (lv_at hl 2 rfl) ?_
  refine lv_if_eq (tgt := 47) hx hb dX11_guess_40 (by decide) (fun h => absurd h (by decide)) (fun _ => ?_)
  refine lv_iconst (v := 1) hx hb dX11_guess_43 (by decide) ?_
  refine lv_goto (tgt := 48) hx hb dX11_guess_44 (by decide) ?_
  refine lv_iadd hx hb dX11_guess_48 ?_
  refine lv_topi (fun x_116 ex_116 => ?_)
  obtain rfl : x_116 = ((nI t) * 2 + 1) := ex_116.trans rfl
  refine k_iast hC hw 1 rfl (vp_in_nI hG (by decide)) dX11_guess_49 (fun H locs hw => ?_)
  obtain ⟨f_117, ef_117⟩ : ∃ g, g = upd gf ((nI G) : Int32).toNatClampNeg ((nI t) * 2 + 1) := ⟨_, rfl⟩
  have hw : kW γ A [(x2, .inr (3, [.ref st9, .ref yr9, .ref ag9, .int li9, .int (nI G), .int la9])), (ag9, .inl (γ.2.1 0, 8, .inl f_117)), (x, .inr (10, [.ref x0, .ref x1, .ref x2, .ref x3, .ref x4, .ref x5, .ref x6, .ref x7, .ref x8, .ref x9, .ref x10])), (x9, .inr (0, [.ref a0, .ref a1, .ref a2, .ref a3, .ref a4, .ref a5, .ref a6, .ref a7, .int (nI T), .int t9, .int t10, .int t11, .int t12, .int t13, .int t14, .int t15, .int t16, .int t17, .int t18]))] s H locs := by rw [ef_117]; exact hw
  have hE : f_117 = (upd gf G ((nI t) * 2 + 1)) := ef_117.trans (by rw [nI_clamp (by omega)])
  rw [hE] at hw
  have hw : kW γ A [(x2, .inr (3, [.ref st9, .ref yr9, .ref ag9, .int li9, .int (nI G), .int la9])), (ag9, .inl (γ.2.1 0, 8, .inl ((upd gf G ((nI t) * 2 + 1))))), (x, .inr (10, [.ref x0, .ref x1, .ref x2, .ref x3, .ref x4, .ref x5, .ref x6, .ref x7, .ref x8, .ref x9, .ref x10])), (x9, .inr (0, [.ref a0, .ref a1, .ref a2, .ref a3, .ref a4, .ref a5, .ref a6, .ref a7, .int (nI T), .int t9, .int t10, .int t11, .int t12, .int t13, .int t14, .int t15, .int t16, .int t17, .int t18]))] s H locs := hw
  refine lv_aload_n hx hb dX11_guess_50 rfl (lv_at hl 0 rfl) ?_
  refine fg_RX11_26 hC hw 2 rfl rfl dX11_guess_51 ?_
  refine lv_dup hx hb dX11_guess_54 rfl ?_
  refine fg_RX11_189 hC hw 0 rfl rfl dX11_guess_55 ?_
  refine lv_iconst (v := 1) hx hb dX11_guess_58 (by decide) ?_
  refine lv_iadd hx hb dX11_guess_59 ?_
  refine lv_topi (fun x_118 ex_118 => ?_)
  obtain rfl : x_118 = (nI (G + 1)) := ex_118.trans (nI_1 G)
  refine fs_RX11_189 hC hw 0 rfl rfl rfl (Nat.le_of_ble_eq_true rfl) dX11_guess_60 (fun H locs hw => ?_)
  have hw : kW γ A [(x2, .inr (3, [.ref st9, .ref yr9, .ref ag9, .int li9, .int (nI (G + 1)), .int la9])), (ag9, .inl (γ.2.1 0, 8, .inl ((upd gf G ((nI t) * 2 + 1))))), (x, .inr (10, [.ref x0, .ref x1, .ref x2, .ref x3, .ref x4, .ref x5, .ref x6, .ref x7, .ref x8, .ref x9, .ref x10])), (x9, .inr (0, [.ref a0, .ref a1, .ref a2, .ref a3, .ref a4, .ref a5, .ref a6, .ref a7, .int (nI T), .int t9, .int t10, .int t11, .int t12, .int t13, .int t14, .int t15, .int t16, .int t17, .int t18]))] s H locs := hw
  refine lv_iconst (v := 1) hx hb dX11_guess_63 (by decide) ?_
  exact k_zret hC hr hlocks rfl hw [2, 3, 0, 1] rfl rfl ⟨rfl, rfl⟩ (by decide) (by decide) dX11_guess_64

set_option maxHeartbeats 4000000 in
set_option maxRecDepth 100000 in
theorem c_mgu_lo (γ : kΓ) (l : Launch) (z : Nat) (z2 : Nat) (z10 : Nat) (z11 : Nat) (z12 : Nat) (z13 : Nat) (z14 : Nat) (z15 : Nat) (z16 : Nat) (z17 : Nat) (z18 : Nat) (z19 : Nat) (z22 : Nat) (z23 : Nat) (z24 : Nat) (z25 : Nat) (z26 : Nat) (z27 : Nat) (z28 : Nat) (z29 : Nat) (z30 : Nat) (z31 : Nat) (z32 : Nat) (z33 : Nat) (z36 : Nat) (z37 : Nat) (z38 : Nat) (z39 : Nat) (z40 : Nat) (z41 : Nat) (z42 : Nat) (z43 : Nat) (z44 : Nat) (z45 : Nat) (z46 : Nat) (z47 : Nat) (z48 : Nat) (z55 : Nat) (z56 : Nat) (z59 : Nat) (z60 : Nat) (z61 : Nat) (n0 : Int32) (n1 : Int32) (n3 : Int32) (n4 : Int32) (n5 : Int32) (n6 : Int32) (n7 : Int64) (n8 : Int32) (n9 : Int32) (n20 : Int32) (n21 : Int32) (n34 : Int32) (n35 : Int64) (n49 : Int32) (n50 : Int32) (n51 : Int32) (n52 : Int32) (n53 : Int32) (n54 : Int32) (n57 : Int32) (n58 : Int32) (n62 : Int32) (n63 : Int64) (ab : Nat → Int32) (T : Nat) (gs : Nat → Int32) (go : Nat → Int32) (gm : Nat → Int32) (th : Int32) (b : Int32) (h0 : ab 0 = nI T) (h1 : th < 0) : kM γ l yX12_guess cX12_guess 3 ((some .boolean)) ({ frames := 1, cells := 0, slots := 0, locals := 21 } : Room) [.ref z, .int th, .int b] [(z, .inr (11, [.int n0, .int n1, .ref z2, .int n3, .int n4, .int n5, .int n6, .long n7, .int n8, .int n9, .ref z10, .ref z11, .ref z12, .ref z13, .ref z14, .ref z15, .ref z16, .ref z17, .ref z18, .ref z19, .int n20, .int n21, .ref z22, .ref z23, .ref z24, .ref z25, .ref z26, .ref z27, .ref z28, .ref z29, .ref z30, .ref z31, .ref z32, .ref z33, .int n34, .long n35, .ref z36, .ref z37, .ref z38, .ref z39, .ref z40, .ref z41, .ref z42, .ref z43, .ref z44, .ref z45, .ref z46, .ref z47, .ref z48, .int n49, .int n50, .int n51, .int n52, .int n53, .int n54, .ref z55, .ref z56, .int n57, .int n58, .ref z59, .ref z60, .ref z61, .int n62, .long n63])), (z10, .inl (γ.2.1 0, 10, .inl ab)), (z40, .inl (γ.2.1 0, 5, .inl gs)), (z41, .inl (γ.2.1 0, 40, .inl go)), (z42, .inl (γ.2.1 3, 40, .inl gm))] (fun r w1 => r = some (.int 0) ∧ w1 = [(z, .inr (11, [.int 0, .int n1, .ref z2, .int n3, .int n4, .int n5, .int n6, .long n7, .int n8, .int n9, .ref z10, .ref z11, .ref z12, .ref z13, .ref z14, .ref z15, .ref z16, .ref z17, .ref z18, .ref z19, .int n20, .int n21, .ref z22, .ref z23, .ref z24, .ref z25, .ref z26, .ref z27, .ref z28, .ref z29, .ref z30, .ref z31, .ref z32, .ref z33, .int n34, .long n35, .ref z36, .ref z37, .ref z38, .ref z39, .ref z40, .ref z41, .ref z42, .ref z43, .ref z44, .ref z45, .ref z46, .ref z47, .ref z48, .int n49, .int n50, .int n51, .int n52, .int n53, .int n54, .ref z55, .ref z56, .int n57, .int n58, .ref z59, .ref z60, .ref z61, .int n62, .long n63])), (z10, .inl (γ.2.1 0, 10, .inl ab)), (z40, .inl (γ.2.1 0, 5, .inl gs)), (z41, .inl (γ.2.1 0, 40, .inl go)), (z42, .inl (γ.2.1 3, 40, .inl gm))]) := by
  refine k_ofW (by decide) (Nat.le_of_ble_eq_true rfl) ?_
  intro p9 e s m below meth c A ls hC hr hlocks hname hw hl
  have hx := hC.1
  have hb := hC.2.1
  have hl : lv_has ls 3 [(0, .ref z), (1, .int th), (2, .int b)] := hl
  refine lv_aload_n hx hb dX12_guess_0 rfl (lv_at hl 0 rfl) ?_
  refine lv_iconst (v := 0) hx hb dX12_guess_1 (by decide) ?_
  refine fs_RX12_143 hC hw 0 rfl rfl rfl (Nat.le_of_ble_eq_true rfl) dX12_guess_2 (fun H locs hw => ?_)
  have hw : kW γ A [(z, .inr (11, [.int 0, .int n1, .ref z2, .int n3, .int n4, .int n5, .int n6, .long n7, .int n8, .int n9, .ref z10, .ref z11, .ref z12, .ref z13, .ref z14, .ref z15, .ref z16, .ref z17, .ref z18, .ref z19, .int n20, .int n21, .ref z22, .ref z23, .ref z24, .ref z25, .ref z26, .ref z27, .ref z28, .ref z29, .ref z30, .ref z31, .ref z32, .ref z33, .int n34, .long n35, .ref z36, .ref z37, .ref z38, .ref z39, .ref z40, .ref z41, .ref z42, .ref z43, .ref z44, .ref z45, .ref z46, .ref z47, .ref z48, .int n49, .int n50, .int n51, .int n52, .int n53, .int n54, .ref z55, .ref z56, .int n57, .int n58, .ref z59, .ref z60, .ref z61, .int n62, .long n63])), (z10, .inl (γ.2.1 0, 10, .inl ab)), (z40, .inl (γ.2.1 0, 5, .inl gs)), (z41, .inl (γ.2.1 0, 40, .inl go)), (z42, .inl (γ.2.1 3, 40, .inl gm))] s H locs := hw
  refine lv_aload_n hx hb dX12_guess_5 rfl (lv_at hl 0 rfl) ?_
  refine lv_iload_n hx hb dX12_guess_6 rfl (lv_at hl 1 rfl) ?_
  refine k_V (wr := [(z40, .inl (γ.2.1 0, 5, .inl gs)), (z41, .inl (γ.2.1 0, 40, .inl go)), (z42, .inl (γ.2.1 3, 40, .inl gm))]) 1 gw_1545 gw_1547 gp_79 gw_15 gw_1548 hd_X12_isThought hC hw (c_X12_isTh_lo γ l z z2 z10 z11 z12 z13 z14 z15 z16 z17 z18 z19 z22 z23 z24 z25 z26 z27 z28 z29 z30 z31 z32 z33 z36 z37 z38 z39 z40 z41 z42 z43 z44 z45 z46 z47 z48 z55 z56 z59 z60 z61 0 n1 n3 n4 n5 n6 n7 n8 n9 n20 n21 n34 n35 n49 n50 n51 n52 n53 n54 n57 n58 n62 n63 ab T th h0 h1) ⟨by decide, by decide⟩ ⟨by decide, by decide⟩ hl.1 rfl 0 rfl rfl rfl (Nat.le_of_ble_eq_true rfl) [0, 1] [2, 3, 4] rfl rfl rfl rfl (by decide) dX12_guess_7 (fun r w1 H locs hq hw => ?_)
  obtain ⟨rfl, rfl⟩ := hq
  have hw : kW γ A [(z40, .inl (γ.2.1 0, 5, .inl gs)), (z41, .inl (γ.2.1 0, 40, .inl go)), (z42, .inl (γ.2.1 3, 40, .inl gm)), (z, .inr (11, [.int 0, .int n1, .ref z2, .int n3, .int n4, .int n5, .int n6, .long n7, .int n8, .int n9, .ref z10, .ref z11, .ref z12, .ref z13, .ref z14, .ref z15, .ref z16, .ref z17, .ref z18, .ref z19, .int n20, .int n21, .ref z22, .ref z23, .ref z24, .ref z25, .ref z26, .ref z27, .ref z28, .ref z29, .ref z30, .ref z31, .ref z32, .ref z33, .int n34, .long n35, .ref z36, .ref z37, .ref z38, .ref z39, .ref z40, .ref z41, .ref z42, .ref z43, .ref z44, .ref z45, .ref z46, .ref z47, .ref z48, .int n49, .int n50, .int n51, .int n52, .int n53, .int n54, .ref z55, .ref z56, .int n57, .int n58, .ref z59, .ref z60, .ref z61, .int n62, .long n63])), (z10, .inl (γ.2.1 0, 10, .inl ab))] s H locs := hw
  refine W.eq (g2 := F0 m 10 ls [.int 0]) rfl ?_
  refine lv_if_eq (tgt := 24) hx hb dX12_guess_10 (by decide) (fun _ => ?_) (fun h => absurd (by decide) h)
  refine lv_iconst (v := 0) hx hb dX12_guess_24 (by decide) ?_
  exact k_zret hC hr hlocks rfl hw [3, 4, 0, 1, 2] rfl rfl ⟨rfl, rfl⟩ (by decide) (by decide) dX12_guess_25

set_option maxHeartbeats 4000000 in
set_option maxRecDepth 100000 in
theorem c_mgu_hi (γ : kΓ) (l : Launch) (z : Nat) (z2 : Nat) (z10 : Nat) (z11 : Nat) (z12 : Nat) (z13 : Nat) (z14 : Nat) (z15 : Nat) (z16 : Nat) (z17 : Nat) (z18 : Nat) (z19 : Nat) (z22 : Nat) (z23 : Nat) (z24 : Nat) (z25 : Nat) (z26 : Nat) (z27 : Nat) (z28 : Nat) (z29 : Nat) (z30 : Nat) (z31 : Nat) (z32 : Nat) (z33 : Nat) (z36 : Nat) (z37 : Nat) (z38 : Nat) (z39 : Nat) (z40 : Nat) (z41 : Nat) (z42 : Nat) (z43 : Nat) (z44 : Nat) (z45 : Nat) (z46 : Nat) (z47 : Nat) (z48 : Nat) (z55 : Nat) (z56 : Nat) (z59 : Nat) (z60 : Nat) (z61 : Nat) (n0 : Int32) (n1 : Int32) (n3 : Int32) (n4 : Int32) (n5 : Int32) (n6 : Int32) (n7 : Int64) (n8 : Int32) (n9 : Int32) (n20 : Int32) (n21 : Int32) (n34 : Int32) (n35 : Int64) (n49 : Int32) (n50 : Int32) (n51 : Int32) (n52 : Int32) (n53 : Int32) (n54 : Int32) (n57 : Int32) (n58 : Int32) (n62 : Int32) (n63 : Int64) (ab : Nat → Int32) (T : Nat) (gs : Nat → Int32) (go : Nat → Int32) (gm : Nat → Int32) (th : Int32) (b : Int32) (h0 : ab 0 = nI T) (h1 : ¬ th < 0) (h2 : nI T ≤ th) : kM γ l yX12_guess cX12_guess 3 ((some .boolean)) ({ frames := 1, cells := 0, slots := 0, locals := 21 } : Room) [.ref z, .int th, .int b] [(z, .inr (11, [.int n0, .int n1, .ref z2, .int n3, .int n4, .int n5, .int n6, .long n7, .int n8, .int n9, .ref z10, .ref z11, .ref z12, .ref z13, .ref z14, .ref z15, .ref z16, .ref z17, .ref z18, .ref z19, .int n20, .int n21, .ref z22, .ref z23, .ref z24, .ref z25, .ref z26, .ref z27, .ref z28, .ref z29, .ref z30, .ref z31, .ref z32, .ref z33, .int n34, .long n35, .ref z36, .ref z37, .ref z38, .ref z39, .ref z40, .ref z41, .ref z42, .ref z43, .ref z44, .ref z45, .ref z46, .ref z47, .ref z48, .int n49, .int n50, .int n51, .int n52, .int n53, .int n54, .ref z55, .ref z56, .int n57, .int n58, .ref z59, .ref z60, .ref z61, .int n62, .long n63])), (z10, .inl (γ.2.1 0, 10, .inl ab)), (z40, .inl (γ.2.1 0, 5, .inl gs)), (z41, .inl (γ.2.1 0, 40, .inl go)), (z42, .inl (γ.2.1 3, 40, .inl gm))] (fun r w1 => r = some (.int 0) ∧ w1 = [(z, .inr (11, [.int 0, .int n1, .ref z2, .int n3, .int n4, .int n5, .int n6, .long n7, .int n8, .int n9, .ref z10, .ref z11, .ref z12, .ref z13, .ref z14, .ref z15, .ref z16, .ref z17, .ref z18, .ref z19, .int n20, .int n21, .ref z22, .ref z23, .ref z24, .ref z25, .ref z26, .ref z27, .ref z28, .ref z29, .ref z30, .ref z31, .ref z32, .ref z33, .int n34, .long n35, .ref z36, .ref z37, .ref z38, .ref z39, .ref z40, .ref z41, .ref z42, .ref z43, .ref z44, .ref z45, .ref z46, .ref z47, .ref z48, .int n49, .int n50, .int n51, .int n52, .int n53, .int n54, .ref z55, .ref z56, .int n57, .int n58, .ref z59, .ref z60, .ref z61, .int n62, .long n63])), (z10, .inl (γ.2.1 0, 10, .inl ab)), (z40, .inl (γ.2.1 0, 5, .inl gs)), (z41, .inl (γ.2.1 0, 40, .inl go)), (z42, .inl (γ.2.1 3, 40, .inl gm))]) := by
  refine k_ofW (by decide) (Nat.le_of_ble_eq_true rfl) ?_
  intro p9 e s m below meth c A ls hC hr hlocks hname hw hl
  have hx := hC.1
  have hb := hC.2.1
  have hl : lv_has ls 3 [(0, .ref z), (1, .int th), (2, .int b)] := hl
  refine lv_aload_n hx hb dX12_guess_0 rfl (lv_at hl 0 rfl) ?_
  refine lv_iconst (v := 0) hx hb dX12_guess_1 (by decide) ?_
  refine fs_RX12_143 hC hw 0 rfl rfl rfl (Nat.le_of_ble_eq_true rfl) dX12_guess_2 (fun H locs hw => ?_)
  have hw : kW γ A [(z, .inr (11, [.int 0, .int n1, .ref z2, .int n3, .int n4, .int n5, .int n6, .long n7, .int n8, .int n9, .ref z10, .ref z11, .ref z12, .ref z13, .ref z14, .ref z15, .ref z16, .ref z17, .ref z18, .ref z19, .int n20, .int n21, .ref z22, .ref z23, .ref z24, .ref z25, .ref z26, .ref z27, .ref z28, .ref z29, .ref z30, .ref z31, .ref z32, .ref z33, .int n34, .long n35, .ref z36, .ref z37, .ref z38, .ref z39, .ref z40, .ref z41, .ref z42, .ref z43, .ref z44, .ref z45, .ref z46, .ref z47, .ref z48, .int n49, .int n50, .int n51, .int n52, .int n53, .int n54, .ref z55, .ref z56, .int n57, .int n58, .ref z59, .ref z60, .ref z61, .int n62, .long n63])), (z10, .inl (γ.2.1 0, 10, .inl ab)), (z40, .inl (γ.2.1 0, 5, .inl gs)), (z41, .inl (γ.2.1 0, 40, .inl go)), (z42, .inl (γ.2.1 3, 40, .inl gm))] s H locs := hw
  refine lv_aload_n hx hb dX12_guess_5 rfl (lv_at hl 0 rfl) ?_
  refine lv_iload_n hx hb dX12_guess_6 rfl (lv_at hl 1 rfl) ?_
  refine k_V (wr := [(z40, .inl (γ.2.1 0, 5, .inl gs)), (z41, .inl (γ.2.1 0, 40, .inl go)), (z42, .inl (γ.2.1 3, 40, .inl gm))]) 1 gw_1545 gw_1547 gp_79 gw_15 gw_1548 hd_X12_isThought hC hw (c_X12_isTh_hi γ l z z2 z10 z11 z12 z13 z14 z15 z16 z17 z18 z19 z22 z23 z24 z25 z26 z27 z28 z29 z30 z31 z32 z33 z36 z37 z38 z39 z40 z41 z42 z43 z44 z45 z46 z47 z48 z55 z56 z59 z60 z61 0 n1 n3 n4 n5 n6 n7 n8 n9 n20 n21 n34 n35 n49 n50 n51 n52 n53 n54 n57 n58 n62 n63 ab T th h0 h1 h2) ⟨by decide, by decide⟩ ⟨by decide, by decide⟩ hl.1 rfl 0 rfl rfl rfl (Nat.le_of_ble_eq_true rfl) [0, 1] [2, 3, 4] rfl rfl rfl rfl (by decide) dX12_guess_7 (fun r w1 H locs hq hw => ?_)
  obtain ⟨rfl, rfl⟩ := hq
  have hw : kW γ A [(z40, .inl (γ.2.1 0, 5, .inl gs)), (z41, .inl (γ.2.1 0, 40, .inl go)), (z42, .inl (γ.2.1 3, 40, .inl gm)), (z, .inr (11, [.int 0, .int n1, .ref z2, .int n3, .int n4, .int n5, .int n6, .long n7, .int n8, .int n9, .ref z10, .ref z11, .ref z12, .ref z13, .ref z14, .ref z15, .ref z16, .ref z17, .ref z18, .ref z19, .int n20, .int n21, .ref z22, .ref z23, .ref z24, .ref z25, .ref z26, .ref z27, .ref z28, .ref z29, .ref z30, .ref z31, .ref z32, .ref z33, .int n34, .long n35, .ref z36, .ref z37, .ref z38, .ref z39, .ref z40, .ref z41, .ref z42, .ref z43, .ref z44, .ref z45, .ref z46, .ref z47, .ref z48, .int n49, .int n50, .int n51, .int n52, .int n53, .int n54, .ref z55, .ref z56, .int n57, .int n58, .ref z59, .ref z60, .ref z61, .int n62, .long n63])), (z10, .inl (γ.2.1 0, 10, .inl ab))] s H locs := hw
  refine W.eq (g2 := F0 m 10 ls [.int 0]) rfl ?_
  refine lv_if_eq (tgt := 24) hx hb dX12_guess_10 (by decide) (fun _ => ?_) (fun h => absurd (by decide) h)
  refine lv_iconst (v := 0) hx hb dX12_guess_24 (by decide) ?_
  exact k_zret hC hr hlocks rfl hw [3, 4, 0, 1, 2] rfl rfl ⟨rfl, rfl⟩ (by decide) (by decide) dX12_guess_25

set_option maxHeartbeats 4000000 in
set_option maxRecDepth 100000 in
theorem c_mgu_full (γ : kΓ) (l : Launch) (z : Nat) (z2 : Nat) (z10 : Nat) (z11 : Nat) (z12 : Nat) (z13 : Nat) (z14 : Nat) (z15 : Nat) (z16 : Nat) (z17 : Nat) (z18 : Nat) (z19 : Nat) (z22 : Nat) (z23 : Nat) (z24 : Nat) (z25 : Nat) (z26 : Nat) (z27 : Nat) (z28 : Nat) (z29 : Nat) (z30 : Nat) (z31 : Nat) (z32 : Nat) (z33 : Nat) (z36 : Nat) (z37 : Nat) (z38 : Nat) (z39 : Nat) (z40 : Nat) (z41 : Nat) (z42 : Nat) (z43 : Nat) (z44 : Nat) (z45 : Nat) (z46 : Nat) (z47 : Nat) (z48 : Nat) (z55 : Nat) (z56 : Nat) (z59 : Nat) (z60 : Nat) (z61 : Nat) (n0 : Int32) (n1 : Int32) (n3 : Int32) (n4 : Int32) (n5 : Int32) (n6 : Int32) (n7 : Int64) (n8 : Int32) (n9 : Int32) (n20 : Int32) (n21 : Int32) (n34 : Int32) (n35 : Int64) (n49 : Int32) (n50 : Int32) (n51 : Int32) (n52 : Int32) (n53 : Int32) (n54 : Int32) (n57 : Int32) (n58 : Int32) (n62 : Int32) (n63 : Int64) (ab : Nat → Int32) (T : Nat) (gs : Nat → Int32) (go : Nat → Int32) (gm : Nat → Int32) (t : Nat) (G : Nat) (b : Int32) (h0 : ab 0 = nI T) (hT : T ≤ 8) (ht : t < T) (hg0 : gs 0 = nI G) (hG : nI G = 8) : kM γ l yX12_guess cX12_guess 3 ((some .boolean)) ({ frames := 1, cells := 0, slots := 0, locals := 21 } : Room) [.ref z, .int (nI t), .int b] [(z, .inr (11, [.int n0, .int n1, .ref z2, .int n3, .int n4, .int n5, .int n6, .long n7, .int n8, .int n9, .ref z10, .ref z11, .ref z12, .ref z13, .ref z14, .ref z15, .ref z16, .ref z17, .ref z18, .ref z19, .int n20, .int n21, .ref z22, .ref z23, .ref z24, .ref z25, .ref z26, .ref z27, .ref z28, .ref z29, .ref z30, .ref z31, .ref z32, .ref z33, .int n34, .long n35, .ref z36, .ref z37, .ref z38, .ref z39, .ref z40, .ref z41, .ref z42, .ref z43, .ref z44, .ref z45, .ref z46, .ref z47, .ref z48, .int n49, .int n50, .int n51, .int n52, .int n53, .int n54, .ref z55, .ref z56, .int n57, .int n58, .ref z59, .ref z60, .ref z61, .int n62, .long n63])), (z10, .inl (γ.2.1 0, 10, .inl ab)), (z40, .inl (γ.2.1 0, 5, .inl gs)), (z41, .inl (γ.2.1 0, 40, .inl go)), (z42, .inl (γ.2.1 3, 40, .inl gm))] (fun r w1 => r = some (.int 0) ∧ w1 = [(z, .inr (11, [.int 0, .int n1, .ref z2, .int n3, .int n4, .int n5, .int n6, .long n7, .int n8, .int n9, .ref z10, .ref z11, .ref z12, .ref z13, .ref z14, .ref z15, .ref z16, .ref z17, .ref z18, .ref z19, .int n20, .int n21, .ref z22, .ref z23, .ref z24, .ref z25, .ref z26, .ref z27, .ref z28, .ref z29, .ref z30, .ref z31, .ref z32, .ref z33, .int n34, .long n35, .ref z36, .ref z37, .ref z38, .ref z39, .ref z40, .ref z41, .ref z42, .ref z43, .ref z44, .ref z45, .ref z46, .ref z47, .ref z48, .int n49, .int n50, .int n51, .int n52, .int n53, .int n54, .ref z55, .ref z56, .int n57, .int n58, .ref z59, .ref z60, .ref z61, .int n62, .long n63])), (z10, .inl (γ.2.1 0, 10, .inl ab)), (z40, .inl (γ.2.1 0, 5, .inl gs)), (z41, .inl (γ.2.1 0, 40, .inl go)), (z42, .inl (γ.2.1 3, 40, .inl gm))]) := by
  refine k_ofW (by decide) (Nat.le_of_ble_eq_true rfl) ?_
  intro p9 e s m below meth c A ls hC hr hlocks hname hw hl
  have hx := hC.1
  have hb := hC.2.1
  have hl : lv_has ls 3 [(0, .ref z), (1, .int (nI t)), (2, .int b)] := hl
  refine lv_aload_n hx hb dX12_guess_0 rfl (lv_at hl 0 rfl) ?_
  refine lv_iconst (v := 0) hx hb dX12_guess_1 (by decide) ?_
  refine fs_RX12_143 hC hw 0 rfl rfl rfl (Nat.le_of_ble_eq_true rfl) dX12_guess_2 (fun H locs hw => ?_)
  have hw : kW γ A [(z, .inr (11, [.int 0, .int n1, .ref z2, .int n3, .int n4, .int n5, .int n6, .long n7, .int n8, .int n9, .ref z10, .ref z11, .ref z12, .ref z13, .ref z14, .ref z15, .ref z16, .ref z17, .ref z18, .ref z19, .int n20, .int n21, .ref z22, .ref z23, .ref z24, .ref z25, .ref z26, .ref z27, .ref z28, .ref z29, .ref z30, .ref z31, .ref z32, .ref z33, .int n34, .long n35, .ref z36, .ref z37, .ref z38, .ref z39, .ref z40, .ref z41, .ref z42, .ref z43, .ref z44, .ref z45, .ref z46, .ref z47, .ref z48, .int n49, .int n50, .int n51, .int n52, .int n53, .int n54, .ref z55, .ref z56, .int n57, .int n58, .ref z59, .ref z60, .ref z61, .int n62, .long n63])), (z10, .inl (γ.2.1 0, 10, .inl ab)), (z40, .inl (γ.2.1 0, 5, .inl gs)), (z41, .inl (γ.2.1 0, 40, .inl go)), (z42, .inl (γ.2.1 3, 40, .inl gm))] s H locs := hw
  refine lv_aload_n hx hb dX12_guess_5 rfl (lv_at hl 0 rfl) ?_
  refine lv_iload_n hx hb dX12_guess_6 rfl (lv_at hl 1 rfl) ?_
  refine k_V (wr := [(z40, .inl (γ.2.1 0, 5, .inl gs)), (z41, .inl (γ.2.1 0, 40, .inl go)), (z42, .inl (γ.2.1 3, 40, .inl gm))]) 1 gw_1545 gw_1547 gp_79 gw_15 gw_1548 hd_X12_isThought hC hw (c_X12_isTh_in γ l z z2 z10 z11 z12 z13 z14 z15 z16 z17 z18 z19 z22 z23 z24 z25 z26 z27 z28 z29 z30 z31 z32 z33 z36 z37 z38 z39 z40 z41 z42 z43 z44 z45 z46 z47 z48 z55 z56 z59 z60 z61 0 n1 n3 n4 n5 n6 n7 n8 n9 n20 n21 n34 n35 n49 n50 n51 n52 n53 n54 n57 n58 n62 n63 ab T t h0 hT ht) ⟨by decide, by decide⟩ ⟨by decide, by decide⟩ hl.1 rfl 0 rfl rfl rfl (Nat.le_of_ble_eq_true rfl) [0, 1] [2, 3, 4] rfl rfl rfl rfl (by decide) dX12_guess_7 (fun r w1 H locs hq hw => ?_)
  obtain ⟨rfl, rfl⟩ := hq
  have hw : kW γ A [(z40, .inl (γ.2.1 0, 5, .inl gs)), (z41, .inl (γ.2.1 0, 40, .inl go)), (z42, .inl (γ.2.1 3, 40, .inl gm)), (z, .inr (11, [.int 0, .int n1, .ref z2, .int n3, .int n4, .int n5, .int n6, .long n7, .int n8, .int n9, .ref z10, .ref z11, .ref z12, .ref z13, .ref z14, .ref z15, .ref z16, .ref z17, .ref z18, .ref z19, .int n20, .int n21, .ref z22, .ref z23, .ref z24, .ref z25, .ref z26, .ref z27, .ref z28, .ref z29, .ref z30, .ref z31, .ref z32, .ref z33, .int n34, .long n35, .ref z36, .ref z37, .ref z38, .ref z39, .ref z40, .ref z41, .ref z42, .ref z43, .ref z44, .ref z45, .ref z46, .ref z47, .ref z48, .int n49, .int n50, .int n51, .int n52, .int n53, .int n54, .ref z55, .ref z56, .int n57, .int n58, .ref z59, .ref z60, .ref z61, .int n62, .long n63])), (z10, .inl (γ.2.1 0, 10, .inl ab))] s H locs := hw
  refine W.eq (g2 := F0 m 10 ls [.int 1]) rfl ?_
  refine lv_if_eq (tgt := 24) hx hb dX12_guess_10 (by decide) (fun h => absurd h (by decide)) (fun _ => ?_)
  refine lv_aload_n hx hb dX12_guess_13 rfl (lv_at hl 0 rfl) ?_
  refine fg_RX12_93 hC hw 3 rfl rfl dX12_guess_14 ?_
  refine lv_iconst (v := 0) hx hb dX12_guess_17 (by decide) ?_
  refine k_iald hC hw 0 rfl (k_in0 (by decide)) dX12_guess_18 ?_
  refine lv_topi (fun x_119 ex_119 => ?_)
  obtain rfl : x_119 = (nI G) := (show x_119 = gs 0 from ex_119).trans hg0
  refine lv_bipush (v := 8) hx hb dX12_guess_19 (by decide) ?_
  refine lv_icmp_ne (tgt := 26) hx hb dX12_guess_21 (by decide) (fun h => absurd hG h) (fun _ => ?_)
  refine lv_iconst (v := 0) hx hb dX12_guess_24 (by decide) ?_
  exact k_zret hC hr hlocks rfl hw [3, 4, 0, 1, 2] rfl rfl ⟨rfl, rfl⟩ (by decide) (by decide) dX12_guess_25

set_option maxHeartbeats 4000000 in
set_option maxRecDepth 100000 in
theorem c_mgu_ok (γ : kΓ) (l : Launch) (z : Nat) (z2 : Nat) (z10 : Nat) (z11 : Nat) (z12 : Nat) (z13 : Nat) (z14 : Nat) (z15 : Nat) (z16 : Nat) (z17 : Nat) (z18 : Nat) (z19 : Nat) (z22 : Nat) (z23 : Nat) (z24 : Nat) (z25 : Nat) (z26 : Nat) (z27 : Nat) (z28 : Nat) (z29 : Nat) (z30 : Nat) (z31 : Nat) (z32 : Nat) (z33 : Nat) (z36 : Nat) (z37 : Nat) (z38 : Nat) (z39 : Nat) (z40 : Nat) (z41 : Nat) (z42 : Nat) (z43 : Nat) (z44 : Nat) (z45 : Nat) (z46 : Nat) (z47 : Nat) (z48 : Nat) (z55 : Nat) (z56 : Nat) (z59 : Nat) (z60 : Nat) (z61 : Nat) (n0 : Int32) (n1 : Int32) (n3 : Int32) (n4 : Int32) (n5 : Int32) (n6 : Int32) (n7 : Int64) (n8 : Int32) (n9 : Int32) (n20 : Int32) (n21 : Int32) (n34 : Int32) (n35 : Int64) (n49 : Int32) (n50 : Int32) (n51 : Int32) (n52 : Int32) (n53 : Int32) (n54 : Int32) (n57 : Int32) (n58 : Int32) (n62 : Int32) (n63 : Int64) (ab : Nat → Int32) (T : Nat) (gs : Nat → Int32) (go : Nat → Int32) (gm : Nat → Int32) (t : Nat) (G : Nat) (b : Int32) (h0 : ab 0 = nI T) (hT : T ≤ 8) (ht : t < T) (hg0 : gs 0 = nI G) (hG : G < 8) : kM γ l yX12_guess cX12_guess 3 ((some .boolean)) ({ frames := 1, cells := 0, slots := 0, locals := 21 } : Room) [.ref z, .int (nI t), .int b] [(z, .inr (11, [.int n0, .int n1, .ref z2, .int n3, .int n4, .int n5, .int n6, .long n7, .int n8, .int n9, .ref z10, .ref z11, .ref z12, .ref z13, .ref z14, .ref z15, .ref z16, .ref z17, .ref z18, .ref z19, .int n20, .int n21, .ref z22, .ref z23, .ref z24, .ref z25, .ref z26, .ref z27, .ref z28, .ref z29, .ref z30, .ref z31, .ref z32, .ref z33, .int n34, .long n35, .ref z36, .ref z37, .ref z38, .ref z39, .ref z40, .ref z41, .ref z42, .ref z43, .ref z44, .ref z45, .ref z46, .ref z47, .ref z48, .int n49, .int n50, .int n51, .int n52, .int n53, .int n54, .ref z55, .ref z56, .int n57, .int n58, .ref z59, .ref z60, .ref z61, .int n62, .long n63])), (z10, .inl (γ.2.1 0, 10, .inl ab)), (z40, .inl (γ.2.1 0, 5, .inl gs)), (z41, .inl (γ.2.1 0, 40, .inl go)), (z42, .inl (γ.2.1 3, 40, .inl gm))] (fun r w1 => r = some (.int 1) ∧ w1 = [(z, .inr (11, [.int 0, .int n1, .ref z2, .int n3, .int n4, .int n5, .int n6, .long n7, .int n8, .int n9, .ref z10, .ref z11, .ref z12, .ref z13, .ref z14, .ref z15, .ref z16, .ref z17, .ref z18, .ref z19, .int n20, .int n21, .ref z22, .ref z23, .ref z24, .ref z25, .ref z26, .ref z27, .ref z28, .ref z29, .ref z30, .ref z31, .ref z32, .ref z33, .int n34, .long n35, .ref z36, .ref z37, .ref z38, .ref z39, .ref z40, .ref z41, .ref z42, .ref z43, .ref z44, .ref z45, .ref z46, .ref z47, .ref z48, .int n49, .int n50, .int n51, .int n52, .int n53, .int n54, .ref z55, .ref z56, .int n57, .int n58, .ref z59, .ref z60, .ref z61, .int n62, .long n63])), (z10, .inl (γ.2.1 0, 10, .inl ab)), (z40, .inl (γ.2.1 0, 5, .inl ((upd gs 0 (nI (G + 1)))))), (z41, .inl (γ.2.1 0, 40, .inl ((upd go G (nI t))))), (z42, .inl (γ.2.1 3, 40, .inl ((upd gm G (vp_nar .boolean b)))))]) := by
  refine k_ofW (by decide) (Nat.le_of_ble_eq_true rfl) ?_
  intro p9 e s m below meth c A ls hC hr hlocks hname hw hl
  have hx := hC.1
  have hb := hC.2.1
  have hl : lv_has ls 3 [(0, .ref z), (1, .int (nI t)), (2, .int b)] := hl
  refine lv_aload_n hx hb dX12_guess_0 rfl (lv_at hl 0 rfl) ?_
  refine lv_iconst (v := 0) hx hb dX12_guess_1 (by decide) ?_
  refine fs_RX12_143 hC hw 0 rfl rfl rfl (Nat.le_of_ble_eq_true rfl) dX12_guess_2 (fun H locs hw => ?_)
  have hw : kW γ A [(z, .inr (11, [.int 0, .int n1, .ref z2, .int n3, .int n4, .int n5, .int n6, .long n7, .int n8, .int n9, .ref z10, .ref z11, .ref z12, .ref z13, .ref z14, .ref z15, .ref z16, .ref z17, .ref z18, .ref z19, .int n20, .int n21, .ref z22, .ref z23, .ref z24, .ref z25, .ref z26, .ref z27, .ref z28, .ref z29, .ref z30, .ref z31, .ref z32, .ref z33, .int n34, .long n35, .ref z36, .ref z37, .ref z38, .ref z39, .ref z40, .ref z41, .ref z42, .ref z43, .ref z44, .ref z45, .ref z46, .ref z47, .ref z48, .int n49, .int n50, .int n51, .int n52, .int n53, .int n54, .ref z55, .ref z56, .int n57, .int n58, .ref z59, .ref z60, .ref z61, .int n62, .long n63])), (z10, .inl (γ.2.1 0, 10, .inl ab)), (z40, .inl (γ.2.1 0, 5, .inl gs)), (z41, .inl (γ.2.1 0, 40, .inl go)), (z42, .inl (γ.2.1 3, 40, .inl gm))] s H locs := hw
  refine lv_aload_n hx hb dX12_guess_5 rfl (lv_at hl 0 rfl) ?_
  refine lv_iload_n hx hb dX12_guess_6 rfl (lv_at hl 1 rfl) ?_
  refine k_V (wr := [(z40, .inl (γ.2.1 0, 5, .inl gs)), (z41, .inl (γ.2.1 0, 40, .inl go)), (z42, .inl (γ.2.1 3, 40, .inl gm))]) 1 gw_1545 gw_1547 gp_79 gw_15 gw_1548 hd_X12_isThought hC hw (c_X12_isTh_in γ l z z2 z10 z11 z12 z13 z14 z15 z16 z17 z18 z19 z22 z23 z24 z25 z26 z27 z28 z29 z30 z31 z32 z33 z36 z37 z38 z39 z40 z41 z42 z43 z44 z45 z46 z47 z48 z55 z56 z59 z60 z61 0 n1 n3 n4 n5 n6 n7 n8 n9 n20 n21 n34 n35 n49 n50 n51 n52 n53 n54 n57 n58 n62 n63 ab T t h0 hT ht) ⟨by decide, by decide⟩ ⟨by decide, by decide⟩ hl.1 rfl 0 rfl rfl rfl (Nat.le_of_ble_eq_true rfl) [0, 1] [2, 3, 4] rfl rfl rfl rfl (by decide) dX12_guess_7 (fun r w1 H locs hq hw => ?_)
  obtain ⟨rfl, rfl⟩ := hq
  have hw : kW γ A [(z40, .inl (γ.2.1 0, 5, .inl gs)), (z41, .inl (γ.2.1 0, 40, .inl go)), (z42, .inl (γ.2.1 3, 40, .inl gm)), (z, .inr (11, [.int 0, .int n1, .ref z2, .int n3, .int n4, .int n5, .int n6, .long n7, .int n8, .int n9, .ref z10, .ref z11, .ref z12, .ref z13, .ref z14, .ref z15, .ref z16, .ref z17, .ref z18, .ref z19, .int n20, .int n21, .ref z22, .ref z23, .ref z24, .ref z25, .ref z26, .ref z27, .ref z28, .ref z29, .ref z30, .ref z31, .ref z32, .ref z33, .int n34, .long n35, .ref z36, .ref z37, .ref z38, .ref z39, .ref z40, .ref z41, .ref z42, .ref z43, .ref z44, .ref z45, .ref z46, .ref z47, .ref z48, .int n49, .int n50, .int n51, .int n52, .int n53, .int n54, .ref z55, .ref z56, .int n57, .int n58, .ref z59, .ref z60, .ref z61, .int n62, .long n63])), (z10, .inl (γ.2.1 0, 10, .inl ab))] s H locs := hw
  refine W.eq (g2 := F0 m 10 ls [.int 1]) rfl ?_
  refine lv_if_eq (tgt := 24) hx hb dX12_guess_10 (by decide) (fun h => absurd h (by decide)) (fun _ => ?_)
  refine lv_aload_n hx hb dX12_guess_13 rfl (lv_at hl 0 rfl) ?_
  refine fg_RX12_93 hC hw 3 rfl rfl dX12_guess_14 ?_
  refine lv_iconst (v := 0) hx hb dX12_guess_17 (by decide) ?_
  refine k_iald hC hw 0 rfl (k_in0 (by decide)) dX12_guess_18 ?_
  refine lv_topi (fun x_120 ex_120 => ?_)
  obtain rfl : x_120 = (nI G) := (show x_120 = gs 0 from ex_120).trans hg0
  refine lv_bipush (v := 8) hx hb dX12_guess_19 (by decide) ?_
  refine lv_icmp_ne (tgt := 26) hx hb dX12_guess_21 (by decide) (fun _ => ?_) (fun h => absurd h (nI_ne8 hG))
  refine lv_aload_n hx hb dX12_guess_26 rfl (lv_at hl 0 rfl) ?_
  refine fg_RX12_96 hC hw 3 rfl rfl dX12_guess_27 ?_
  refine lv_aload_n hx hb dX12_guess_30 rfl (lv_at hl 0 rfl) ?_
  refine fg_RX12_93 hC hw 3 rfl rfl dX12_guess_31 ?_
  refine lv_iconst (v := 0) hx hb dX12_guess_34 (by decide) ?_
  refine k_iald hC hw 0 rfl (k_in0 (by decide)) dX12_guess_35 ?_
  refine lv_topi (fun x_121 ex_121 => ?_)
  obtain rfl : x_121 = (nI G) := (show x_121 = gs 0 from ex_121).trans hg0
  refine lv_iload_n hx hb dX12_guess_36 rfl (lv_at hl 1 rfl) ?_
  refine k_iast hC hw 1 rfl (vp_in_nI (by omega) (by decide)) dX12_guess_37 (fun H locs hw => ?_)
  obtain ⟨f_122, ef_122⟩ : ∃ g, g = upd go ((nI G) : Int32).toNatClampNeg (nI t) := ⟨_, rfl⟩
  have hw : kW γ A [(z40, .inl (γ.2.1 0, 5, .inl gs)), (z41, .inl (γ.2.1 0, 40, .inl f_122)), (z42, .inl (γ.2.1 3, 40, .inl gm)), (z, .inr (11, [.int 0, .int n1, .ref z2, .int n3, .int n4, .int n5, .int n6, .long n7, .int n8, .int n9, .ref z10, .ref z11, .ref z12, .ref z13, .ref z14, .ref z15, .ref z16, .ref z17, .ref z18, .ref z19, .int n20, .int n21, .ref z22, .ref z23, .ref z24, .ref z25, .ref z26, .ref z27, .ref z28, .ref z29, .ref z30, .ref z31, .ref z32, .ref z33, .int n34, .long n35, .ref z36, .ref z37, .ref z38, .ref z39, .ref z40, .ref z41, .ref z42, .ref z43, .ref z44, .ref z45, .ref z46, .ref z47, .ref z48, .int n49, .int n50, .int n51, .int n52, .int n53, .int n54, .ref z55, .ref z56, .int n57, .int n58, .ref z59, .ref z60, .ref z61, .int n62, .long n63])), (z10, .inl (γ.2.1 0, 10, .inl ab))] s H locs := by rw [ef_122]; exact hw
  have hE : f_122 = (upd go G (nI t)) := ef_122.trans (by rw [nI_clamp (by omega)])
  rw [hE] at hw
  have hw : kW γ A [(z40, .inl (γ.2.1 0, 5, .inl gs)), (z41, .inl (γ.2.1 0, 40, .inl ((upd go G (nI t))))), (z42, .inl (γ.2.1 3, 40, .inl gm)), (z, .inr (11, [.int 0, .int n1, .ref z2, .int n3, .int n4, .int n5, .int n6, .long n7, .int n8, .int n9, .ref z10, .ref z11, .ref z12, .ref z13, .ref z14, .ref z15, .ref z16, .ref z17, .ref z18, .ref z19, .int n20, .int n21, .ref z22, .ref z23, .ref z24, .ref z25, .ref z26, .ref z27, .ref z28, .ref z29, .ref z30, .ref z31, .ref z32, .ref z33, .int n34, .long n35, .ref z36, .ref z37, .ref z38, .ref z39, .ref z40, .ref z41, .ref z42, .ref z43, .ref z44, .ref z45, .ref z46, .ref z47, .ref z48, .int n49, .int n50, .int n51, .int n52, .int n53, .int n54, .ref z55, .ref z56, .int n57, .int n58, .ref z59, .ref z60, .ref z61, .int n62, .long n63])), (z10, .inl (γ.2.1 0, 10, .inl ab))] s H locs := hw
  refine lv_aload_n hx hb dX12_guess_38 rfl (lv_at hl 0 rfl) ?_
  refine fg_RX12_99 hC hw 3 rfl rfl dX12_guess_39 ?_
  refine lv_aload_n hx hb dX12_guess_42 rfl (lv_at hl 0 rfl) ?_
  refine fg_RX12_93 hC hw 3 rfl rfl dX12_guess_43 ?_
  refine lv_iconst (v := 0) hx hb dX12_guess_46 (by decide) ?_
  refine k_iald hC hw 0 rfl (k_in0 (by decide)) dX12_guess_47 ?_
  refine lv_topi (fun x_123 ex_123 => ?_)
  obtain rfl : x_123 = (nI G) := (show x_123 = gs 0 from ex_123).trans hg0
  refine lv_iload_n hx hb dX12_guess_48 rfl (lv_at hl 2 rfl) ?_
  refine k_zast hC hw 2 rfl (vp_in_nI (by omega) (by decide)) dX12_guess_49 (fun H locs hw => ?_)
  obtain ⟨f_124, ef_124⟩ : ∃ g, g = upd gm ((nI G) : Int32).toNatClampNeg (vp_nar .boolean b) := ⟨_, rfl⟩
  have hw : kW γ A [(z40, .inl (γ.2.1 0, 5, .inl gs)), (z41, .inl (γ.2.1 0, 40, .inl ((upd go G (nI t))))), (z42, .inl (γ.2.1 3, 40, .inl f_124)), (z, .inr (11, [.int 0, .int n1, .ref z2, .int n3, .int n4, .int n5, .int n6, .long n7, .int n8, .int n9, .ref z10, .ref z11, .ref z12, .ref z13, .ref z14, .ref z15, .ref z16, .ref z17, .ref z18, .ref z19, .int n20, .int n21, .ref z22, .ref z23, .ref z24, .ref z25, .ref z26, .ref z27, .ref z28, .ref z29, .ref z30, .ref z31, .ref z32, .ref z33, .int n34, .long n35, .ref z36, .ref z37, .ref z38, .ref z39, .ref z40, .ref z41, .ref z42, .ref z43, .ref z44, .ref z45, .ref z46, .ref z47, .ref z48, .int n49, .int n50, .int n51, .int n52, .int n53, .int n54, .ref z55, .ref z56, .int n57, .int n58, .ref z59, .ref z60, .ref z61, .int n62, .long n63])), (z10, .inl (γ.2.1 0, 10, .inl ab))] s H locs := by rw [ef_124]; exact hw
  have hE : f_124 = (upd gm G (vp_nar .boolean b)) := ef_124.trans (by rw [nI_clamp (by omega)])
  rw [hE] at hw
  have hw : kW γ A [(z40, .inl (γ.2.1 0, 5, .inl gs)), (z41, .inl (γ.2.1 0, 40, .inl ((upd go G (nI t))))), (z42, .inl (γ.2.1 3, 40, .inl ((upd gm G (vp_nar .boolean b))))), (z, .inr (11, [.int 0, .int n1, .ref z2, .int n3, .int n4, .int n5, .int n6, .long n7, .int n8, .int n9, .ref z10, .ref z11, .ref z12, .ref z13, .ref z14, .ref z15, .ref z16, .ref z17, .ref z18, .ref z19, .int n20, .int n21, .ref z22, .ref z23, .ref z24, .ref z25, .ref z26, .ref z27, .ref z28, .ref z29, .ref z30, .ref z31, .ref z32, .ref z33, .int n34, .long n35, .ref z36, .ref z37, .ref z38, .ref z39, .ref z40, .ref z41, .ref z42, .ref z43, .ref z44, .ref z45, .ref z46, .ref z47, .ref z48, .int n49, .int n50, .int n51, .int n52, .int n53, .int n54, .ref z55, .ref z56, .int n57, .int n58, .ref z59, .ref z60, .ref z61, .int n62, .long n63])), (z10, .inl (γ.2.1 0, 10, .inl ab))] s H locs := hw
  refine lv_aload_n hx hb dX12_guess_50 rfl (lv_at hl 0 rfl) ?_
  refine fg_RX12_93 hC hw 3 rfl rfl dX12_guess_51 ?_
  refine lv_iconst (v := 0) hx hb dX12_guess_54 (by decide) ?_
  refine lv_dup2_11 hx hb dX12_guess_55 rfl rfl ?_
  refine k_iald hC hw 0 rfl (k_in0 (by decide)) dX12_guess_56 ?_
  refine lv_topi (fun x_125 ex_125 => ?_)
  obtain rfl : x_125 = (nI G) := (show x_125 = gs 0 from ex_125).trans hg0
  refine lv_iconst (v := 1) hx hb dX12_guess_57 (by decide) ?_
  refine lv_iadd hx hb dX12_guess_58 ?_
  refine lv_topi (fun x_126 ex_126 => ?_)
  obtain rfl : x_126 = (nI (G + 1)) := ex_126.trans (nI_1 G)
  refine k_iast hC hw 0 rfl (k_in0 (by decide)) dX12_guess_59 (fun H locs hw => ?_)
  obtain ⟨f_127, ef_127⟩ : ∃ g, g = upd gs (0 : Int32).toNatClampNeg (nI (G + 1)) := ⟨_, rfl⟩
  have hw : kW γ A [(z40, .inl (γ.2.1 0, 5, .inl f_127)), (z41, .inl (γ.2.1 0, 40, .inl ((upd go G (nI t))))), (z42, .inl (γ.2.1 3, 40, .inl ((upd gm G (vp_nar .boolean b))))), (z, .inr (11, [.int 0, .int n1, .ref z2, .int n3, .int n4, .int n5, .int n6, .long n7, .int n8, .int n9, .ref z10, .ref z11, .ref z12, .ref z13, .ref z14, .ref z15, .ref z16, .ref z17, .ref z18, .ref z19, .int n20, .int n21, .ref z22, .ref z23, .ref z24, .ref z25, .ref z26, .ref z27, .ref z28, .ref z29, .ref z30, .ref z31, .ref z32, .ref z33, .int n34, .long n35, .ref z36, .ref z37, .ref z38, .ref z39, .ref z40, .ref z41, .ref z42, .ref z43, .ref z44, .ref z45, .ref z46, .ref z47, .ref z48, .int n49, .int n50, .int n51, .int n52, .int n53, .int n54, .ref z55, .ref z56, .int n57, .int n58, .ref z59, .ref z60, .ref z61, .int n62, .long n63])), (z10, .inl (γ.2.1 0, 10, .inl ab))] s H locs := by rw [ef_127]; exact hw
  have h_128 : f_127 0 = (nI (G + 1)) := by rw [ef_127]; rfl
  have hE : f_127 = (upd gs 0 (nI (G + 1))) := ef_127.trans (by rw [show (0 : Int32).toNatClampNeg = 0 from by decide])
  rw [hE] at hw
  have hw : kW γ A [(z40, .inl (γ.2.1 0, 5, .inl ((upd gs 0 (nI (G + 1)))))), (z41, .inl (γ.2.1 0, 40, .inl ((upd go G (nI t))))), (z42, .inl (γ.2.1 3, 40, .inl ((upd gm G (vp_nar .boolean b))))), (z, .inr (11, [.int 0, .int n1, .ref z2, .int n3, .int n4, .int n5, .int n6, .long n7, .int n8, .int n9, .ref z10, .ref z11, .ref z12, .ref z13, .ref z14, .ref z15, .ref z16, .ref z17, .ref z18, .ref z19, .int n20, .int n21, .ref z22, .ref z23, .ref z24, .ref z25, .ref z26, .ref z27, .ref z28, .ref z29, .ref z30, .ref z31, .ref z32, .ref z33, .int n34, .long n35, .ref z36, .ref z37, .ref z38, .ref z39, .ref z40, .ref z41, .ref z42, .ref z43, .ref z44, .ref z45, .ref z46, .ref z47, .ref z48, .int n49, .int n50, .int n51, .int n52, .int n53, .int n54, .ref z55, .ref z56, .int n57, .int n58, .ref z59, .ref z60, .ref z61, .int n62, .long n63])), (z10, .inl (γ.2.1 0, 10, .inl ab))] s H locs := hw
  refine lv_iconst (v := 1) hx hb dX12_guess_60 (by decide) ?_
  exact k_zret hC hr hlocks rfl hw [3, 4, 0, 1, 2] rfl rfl ⟨rfl, rfl⟩ (by decide) (by decide) dX12_guess_61


theorem dX12_laysLines_0 : decode cX12_laysLines 0 = .ok (.aload_n 0, 1) := by decide +kernel
theorem dX12_laysLines_1 : decode cX12_laysLines 1 = .ok (.getfield 81, 3) := by decide +kernel
theorem dX12_laysLines_4 : decode cX12_laysLines 4 = .ok (.iload_n 2, 1) := by decide +kernel
theorem dX12_laysLines_5 : decode cX12_laysLines 5 = .ok (.aload_n 0, 1) := by decide +kernel
theorem dX12_laysLines_6 : decode cX12_laysLines 6 = .ok (.getfield 81, 3) := by decide +kernel
theorem dX12_laysLines_9 : decode cX12_laysLines 9 = .ok (.iload_n 1, 1) := by decide +kernel
theorem dX12_laysLines_10 : decode cX12_laysLines 10 = .ok (.iaload, 1) := by decide +kernel
theorem dX12_laysLines_11 : decode cX12_laysLines 11 = .ok (.iastore, 1) := by decide +kernel
theorem dX12_laysLines_12 : decode cX12_laysLines 12 = .ok (.iconst 0, 1) := by decide +kernel
theorem dX12_laysLines_13 : decode cX12_laysLines 13 = .ok (.istore_n 3, 1) := by decide +kernel
theorem dX12_laysLines_14 : decode cX12_laysLines 14 = .ok (.iload_n 3, 1) := by decide +kernel
theorem dX12_laysLines_15 : decode cX12_laysLines 15 = .ok (.bipush 40, 2) := by decide +kernel
theorem dX12_laysLines_17 : decode cX12_laysLines 17 = .ok (.if_icmp .ge 75, 3) := by decide +kernel
theorem dX12_laysLines_20 : decode cX12_laysLines 20 = .ok (.aload_n 0, 1) := by decide +kernel
theorem dX12_laysLines_21 : decode cX12_laysLines 21 = .ok (.getfield 84, 3) := by decide +kernel
theorem dX12_laysLines_24 : decode cX12_laysLines 24 = .ok (.bipush 40, 2) := by decide +kernel
theorem dX12_laysLines_26 : decode cX12_laysLines 26 = .ok (.iload_n 2, 1) := by decide +kernel
theorem dX12_laysLines_27 : decode cX12_laysLines 27 = .ok (.imul, 1) := by decide +kernel
theorem dX12_laysLines_28 : decode cX12_laysLines 28 = .ok (.iload_n 3, 1) := by decide +kernel
theorem dX12_laysLines_29 : decode cX12_laysLines 29 = .ok (.iadd, 1) := by decide +kernel
theorem dX12_laysLines_30 : decode cX12_laysLines 30 = .ok (.aload_n 0, 1) := by decide +kernel
theorem dX12_laysLines_31 : decode cX12_laysLines 31 = .ok (.getfield 84, 3) := by decide +kernel
theorem dX12_laysLines_34 : decode cX12_laysLines 34 = .ok (.bipush 40, 2) := by decide +kernel
theorem dX12_laysLines_36 : decode cX12_laysLines 36 = .ok (.iload_n 1, 1) := by decide +kernel
theorem dX12_laysLines_37 : decode cX12_laysLines 37 = .ok (.imul, 1) := by decide +kernel
theorem dX12_laysLines_38 : decode cX12_laysLines 38 = .ok (.iload_n 3, 1) := by decide +kernel
theorem dX12_laysLines_39 : decode cX12_laysLines 39 = .ok (.iadd, 1) := by decide +kernel
theorem dX12_laysLines_40 : decode cX12_laysLines 40 = .ok (.iaload, 1) := by decide +kernel
theorem dX12_laysLines_41 : decode cX12_laysLines 41 = .ok (.iastore, 1) := by decide +kernel
theorem dX12_laysLines_42 : decode cX12_laysLines 42 = .ok (.aload_n 0, 1) := by decide +kernel
theorem dX12_laysLines_43 : decode cX12_laysLines 43 = .ok (.getfield 87, 3) := by decide +kernel
theorem dX12_laysLines_46 : decode cX12_laysLines 46 = .ok (.bipush 40, 2) := by decide +kernel
theorem dX12_laysLines_48 : decode cX12_laysLines 48 = .ok (.iload_n 2, 1) := by decide +kernel
theorem dX12_laysLines_49 : decode cX12_laysLines 49 = .ok (.imul, 1) := by decide +kernel
theorem dX12_laysLines_50 : decode cX12_laysLines 50 = .ok (.iload_n 3, 1) := by decide +kernel
theorem dX12_laysLines_51 : decode cX12_laysLines 51 = .ok (.iadd, 1) := by decide +kernel
theorem dX12_laysLines_52 : decode cX12_laysLines 52 = .ok (.aload_n 0, 1) := by decide +kernel
theorem dX12_laysLines_53 : decode cX12_laysLines 53 = .ok (.getfield 87, 3) := by decide +kernel
theorem dX12_laysLines_56 : decode cX12_laysLines 56 = .ok (.bipush 40, 2) := by decide +kernel
theorem dX12_laysLines_58 : decode cX12_laysLines 58 = .ok (.iload_n 1, 1) := by decide +kernel
theorem dX12_laysLines_59 : decode cX12_laysLines 59 = .ok (.imul, 1) := by decide +kernel
theorem dX12_laysLines_60 : decode cX12_laysLines 60 = .ok (.iload_n 3, 1) := by decide +kernel
theorem dX12_laysLines_61 : decode cX12_laysLines 61 = .ok (.iadd, 1) := by decide +kernel
theorem dX12_laysLines_62 : decode cX12_laysLines 62 = .ok (.iaload, 1) := by decide +kernel
theorem dX12_laysLines_63 : decode cX12_laysLines 63 = .ok (.iastore, 1) := by decide +kernel
theorem dX12_laysLines_64 : decode cX12_laysLines 64 = .ok (.aload_n 0, 1) := by decide +kernel
theorem dX12_laysLines_65 : decode cX12_laysLines 65 = .ok (.getfield 90, 3) := by decide +kernel
theorem dX12_laysLines_68 : decode cX12_laysLines 68 = .ok (.bipush 40, 2) := by decide +kernel
theorem dX12_laysLines_70 : decode cX12_laysLines 70 = .ok (.iload_n 2, 1) := by decide +kernel
theorem dX12_laysLines_71 : decode cX12_laysLines 71 = .ok (.imul, 1) := by decide +kernel
theorem dX12_laysLines_72 : decode cX12_laysLines 72 = .ok (.iload_n 3, 1) := by decide +kernel
theorem dX12_laysLines_73 : decode cX12_laysLines 73 = .ok (.iadd, 1) := by decide +kernel
theorem dX12_laysLines_74 : decode cX12_laysLines 74 = .ok (.aload_n 0, 1) := by decide +kernel
theorem dX12_laysLines_75 : decode cX12_laysLines 75 = .ok (.getfield 90, 3) := by decide +kernel
theorem dX12_laysLines_78 : decode cX12_laysLines 78 = .ok (.bipush 40, 2) := by decide +kernel
theorem dX12_laysLines_80 : decode cX12_laysLines 80 = .ok (.iload_n 1, 1) := by decide +kernel
theorem dX12_laysLines_81 : decode cX12_laysLines 81 = .ok (.imul, 1) := by decide +kernel
theorem dX12_laysLines_82 : decode cX12_laysLines 82 = .ok (.iload_n 3, 1) := by decide +kernel
theorem dX12_laysLines_83 : decode cX12_laysLines 83 = .ok (.iadd, 1) := by decide +kernel
theorem dX12_laysLines_84 : decode cX12_laysLines 84 = .ok (.iaload, 1) := by decide +kernel
theorem dX12_laysLines_85 : decode cX12_laysLines 85 = .ok (.iastore, 1) := by decide +kernel
theorem dX12_laysLines_86 : decode cX12_laysLines 86 = .ok (.iinc 3 1, 3) := by decide +kernel
theorem dX12_laysLines_89 : decode cX12_laysLines 89 = .ok (.goto (-75), 3) := by decide +kernel
theorem dX12_laysLines_92 : decode cX12_laysLines 92 = .ok (.return_, 1) := by decide +kernel
theorem dX12_years_0 : decode cX12_years 0 = .ok (.aload_n 0, 1) := by decide +kernel
theorem dX12_years_1 : decode cX12_years 1 = .ok (.iconst 0, 1) := by decide +kernel
theorem dX12_years_2 : decode cX12_years 2 = .ok (.putfield 143, 3) := by decide +kernel
theorem dX12_years_5 : decode cX12_years 5 = .ok (.aload_n 0, 1) := by decide +kernel
theorem dX12_years_6 : decode cX12_years 6 = .ok (.getfield 81, 3) := by decide +kernel
theorem dX12_years_9 : decode cX12_years 9 = .ok (.iconst 5, 1) := by decide +kernel
theorem dX12_years_10 : decode cX12_years 10 = .ok (.iconst 0, 1) := by decide +kernel
theorem dX12_years_11 : decode cX12_years 11 = .ok (.iastore, 1) := by decide +kernel
theorem dX12_years_12 : decode cX12_years 12 = .ok (.aload_n 0, 1) := by decide +kernel
theorem dX12_years_13 : decode cX12_years 13 = .ok (.invokevirtual 305, 3) := by decide +kernel
theorem dX12_years_16 : decode cX12_years 16 = .ok (.aload_n 0, 1) := by decide +kernel
theorem dX12_years_17 : decode cX12_years 17 = .ok (.getfield 167, 3) := by decide +kernel
theorem dX12_years_20 : decode cX12_years 20 = .ok (.ifCond .eq 15, 3) := by decide +kernel
theorem dX12_years_23 : decode cX12_years 23 = .ok (.aload_n 0, 1) := by decide +kernel
theorem dX12_years_24 : decode cX12_years 24 = .ok (.invokevirtual 342, 3) := by decide +kernel
theorem dX12_years_27 : decode cX12_years 27 = .ok (.ifCond .ne (-11), 3) := by decide +kernel
theorem dX12_years_30 : decode cX12_years 30 = .ok (.aload_n 0, 1) := by decide +kernel
theorem dX12_years_31 : decode cX12_years 31 = .ok (.getfield 178, 3) := by decide +kernel
theorem dX12_years_34 : decode cX12_years 34 = .ok (.ireturn, 1) := by decide +kernel
theorem dX12_years_35 : decode cX12_years 35 = .ok (.aload_n 0, 1) := by decide +kernel
theorem dX12_years_36 : decode cX12_years 36 = .ok (.iconst 5, 1) := by decide +kernel
theorem dX12_years_37 : decode cX12_years 37 = .ok (.iconst 0, 1) := by decide +kernel
theorem dX12_years_38 : decode cX12_years 38 = .ok (.invokevirtual 345, 3) := by decide +kernel
theorem dX12_years_41 : decode cX12_years 41 = .ok (.iconst 0, 1) := by decide +kernel
theorem dX12_years_42 : decode cX12_years 42 = .ok (.ireturn, 1) := by decide +kernel
def F_m_layl (li : Nat → Int32) : Nat → Nat → (Nat → Int32) → (Nat → Int32) → (Nat → Int32) → (Nat → Int32) × (Nat → Int32) × (Nat → Int32)
  | 0, j, lw, la, lb => (lw, la, lb)
  | k + 1, j, lw, la, lb => (F_m_layl li k (j + 1) (upd lw ((nI j) : Int32).toNatClampNeg (lw ((nI (200 + j)) : Int32).toNatClampNeg)) (upd la ((nI j) : Int32).toNatClampNeg (la ((nI (200 + j)) : Int32).toNatClampNeg)) (upd lb ((nI j) : Int32).toNatClampNeg (lb ((nI (200 + j)) : Int32).toNatClampNeg)))
theorem F_m_layl_z {li : Nat → Int32} {j : Nat} {lw : (Nat → Int32)} {la : (Nat → Int32)} {lb : (Nat → Int32)} : (F_m_layl li 0 j lw la lb) = (lw, la, lb) := rfl
theorem F_m_layl_s {li : Nat → Int32} {j : Nat} {lw : (Nat → Int32)} {la : (Nat → Int32)} {lb : (Nat → Int32)} {k : Nat} : (F_m_layl li (k + 1) j lw la lb) = (F_m_layl li k (j + 1) (upd lw ((nI j) : Int32).toNatClampNeg (lw ((nI (200 + j)) : Int32).toNatClampNeg)) (upd la ((nI j) : Int32).toNatClampNeg (la ((nI (200 + j)) : Int32).toNatClampNeg)) (upd lb ((nI j) : Int32).toNatClampNeg (lb ((nI (200 + j)) : Int32).toNatClampNeg))) := rfl
set_option maxHeartbeats 4000000 in
set_option maxRecDepth 100000 in
theorem lp_m_layl {γ : kΓ} {l : Launch} {p : Program} {e : Env} {s : State} {m : MethodId} {below : List Frame} {meth : Method} {c : Code} {A : Nat → Prop} (z : Nat) (z2 : Nat) (z10 : Nat) (z11 : Nat) (z12 : Nat) (z13 : Nat) (z14 : Nat) (z15 : Nat) (z16 : Nat) (z17 : Nat) (z18 : Nat) (z19 : Nat) (z22 : Nat) (z23 : Nat) (z24 : Nat) (z25 : Nat) (z26 : Nat) (z27 : Nat) (z28 : Nat) (z29 : Nat) (z30 : Nat) (z31 : Nat) (z32 : Nat) (z33 : Nat) (z36 : Nat) (z37 : Nat) (z38 : Nat) (z39 : Nat) (z40 : Nat) (z41 : Nat) (z42 : Nat) (z43 : Nat) (z44 : Nat) (z45 : Nat) (z46 : Nat) (z47 : Nat) (z48 : Nat) (z55 : Nat) (z56 : Nat) (z59 : Nat) (z60 : Nat) (z61 : Nat) (n0 : Int32) (n1 : Int32) (n49 : Int32) (n50 : Int32) (n51 : Int32) (n52 : Int32) (n53 : Int32) (n54 : Int32) (n57 : Int32) (n58 : Int32) (n62 : Int32) (n63 : Int64) (n : Nat) (g : Nat → Int32) (rs : mRS) (a : mAS) (li : Nat → Int32) (hC : kC γ p s m [.ref z, .int 5, .int 0].toArray c cX12_laysLines 4 RX12 A) (hr : meth.sig.returnType = none) (hlocks : meth.locks = false) : ∀ (k i : Nat) (j : Nat) (lw : (Nat → Int32)) (la : (Nat → Int32)) (lb : (Nat → Int32)), i + k = 40 → (j = i) → ∀ (H : Heap) (locs : List Loc), kW γ A ((mWz γ z z2 z10 z11 z12 z13 z14 z15 z16 z17 z18 z19 z22 z23 z24 z25 z26 z27 z28 z29 z30 z31 z32 z33 z36 z37 z38 z39 z40 z41 z42 z43 z44 z45 z46 z47 z48 z55 z56 z59 z60 z61 n0 n1 n49 n50 n51 n52 n53 n54 n57 n58 n62 n63 g n rs) ++ (mWa γ z10 z11 z12 z13 z14 z15 z16 z17 z18 z19 z22 z23 a) ++ [(z36, .inl (γ.2.1 0, 6, .inl li)), (z37, .inl (γ.2.1 0, 240, .inl lw)), (z38, .inl (γ.2.1 0, 240, .inl la)), (z39, .inl (γ.2.1 0, 240, .inl lb))]) s H locs → ∀ ls : Array Slot, lv_has ls 4 [(3, .int (nI i)), (0, .ref z), (1, .int 5), (2, .int 0)] → W p l e ({ frames := 0, cells := 0, slots := 0, locals := 0 } : Room) s m [.ref z, .int 5, .int 0].toArray below meth c H locs 0 0 (MQ below (kQ γ A (fun r w1 => r = none ∧ w1 = ((mWz γ z z2 z10 z11 z12 z13 z14 z15 z16 z17 z18 z19 z22 z23 z24 z25 z26 z27 z28 z29 z30 z31 z32 z33 z36 z37 z38 z39 z40 z41 z42 z43 z44 z45 z46 z47 z48 z55 z56 z59 z60 z61 n0 n1 n49 n50 n51 n52 n53 n54 n57 n58 n62 n63 g n rs) ++ (mWa γ z10 z11 z12 z13 z14 z15 z16 z17 z18 z19 z22 z23 a) ++ [(z36, .inl (γ.2.1 0, 6, .inl li)), (z37, .inl (γ.2.1 0, 240, .inl ((F_m_layl li k j lw la lb).1))), (z38, .inl (γ.2.1 0, 240, .inl ((F_m_layl li k j lw la lb).2.1))), (z39, .inl (γ.2.1 0, 240, .inl ((F_m_layl li k j lw la lb).2.2)))]))) [.ref z, .int 5, .int 0].toArray s 0 0 A) (F0 m 14 ls []) := by
  have hx := hC.1
  have hb := hC.2.1
  intro k
  induction k with
  | zero =>
    intro i j lw la lb hk hj H locs hw ls hl
    refine lv_iload_n hx hb dX12_laysLines_14 rfl (lv_at hl 0 rfl) ?_
    refine lv_bipush (v := 40) hx hb dX12_laysLines_15 (by decide) ?_
    refine lv_icmp_ge (tgt := 92) hx hb dX12_laysLines_17 (by decide) (fun _ => ?_) (fun h => absurd (nI_le (a := 40) (by omega) (by omega)) h)
    have hE : (F_m_layl li 0 j lw la lb) = (lw, la, lb) := by rfl
    have hw : kW γ A ((mWz γ z z2 z10 z11 z12 z13 z14 z15 z16 z17 z18 z19 z22 z23 z24 z25 z26 z27 z28 z29 z30 z31 z32 z33 z36 z37 z38 z39 z40 z41 z42 z43 z44 z45 z46 z47 z48 z55 z56 z59 z60 z61 n0 n1 n49 n50 n51 n52 n53 n54 n57 n58 n62 n63 g n rs) ++ (mWa γ z10 z11 z12 z13 z14 z15 z16 z17 z18 z19 z22 z23 a) ++ [(z36, .inl (γ.2.1 0, 6, .inl li)), (z37, .inl (γ.2.1 0, 240, .inl ((F_m_layl li 0 j lw la lb).1))), (z38, .inl (γ.2.1 0, 240, .inl ((F_m_layl li 0 j lw la lb).2.1))), (z39, .inl (γ.2.1 0, 240, .inl ((F_m_layl li 0 j lw la lb).2.2)))]) s H locs := by first | (rw [hE]; exact hw) | exact hw
    exact k_vret hC hr hlocks hw [0, 1, 2, 3, 4, 5, 6, 7, 8, 9, 10, 11, 12, 13, 14, 15, 16, 17] rfl rfl ⟨rfl, rfl⟩ (by decide) (by decide) dX12_laysLines_92
  | succ k ih =>
    intro i j lw la lb hk hj H locs hw ls hl
    refine lv_iload_n hx hb dX12_laysLines_14 rfl (lv_at hl 0 rfl) ?_
    refine lv_bipush (v := 40) hx hb dX12_laysLines_15 (by decide) ?_
    refine lv_icmp_ge (tgt := 92) hx hb dX12_laysLines_17 (by decide) (fun h => absurd h (nI_ge (b := 40) (by omega) (by decide))) (fun _ => ?_)
    refine lv_aload_n hx hb dX12_laysLines_20 rfl (lv_at hl 1 rfl) ?_
    refine fg_RX12_84 hC hw 0 rfl rfl dX12_laysLines_21 ?_
    refine lv_bipush (v := 40) hx hb dX12_laysLines_24 (by decide) ?_
    refine lv_iload_n hx hb dX12_laysLines_26 rfl (lv_at hl 3 rfl) ?_
    refine lv_imul hx hb dX12_laysLines_27 ?_
    refine lv_topi (fun x_487 ex_487 => ?_)
    obtain rfl : x_487 = 0 := ex_487.trans (by decide)
    refine lv_iload_n hx hb dX12_laysLines_28 rfl (lv_at hl 0 rfl) ?_
    refine lv_iadd hx hb dX12_laysLines_29 ?_
    refine lv_topi (fun x_488 ex_488 => ?_)
    obtain rfl : x_488 = (nI j) := ex_488.trans (by rw [hj]; exact Int32.zero_add _)
    refine lv_aload_n hx hb dX12_laysLines_30 rfl (lv_at hl 1 rfl) ?_
    refine fg_RX12_84 hC hw 0 rfl rfl dX12_laysLines_31 ?_
    refine lv_bipush (v := 40) hx hb dX12_laysLines_34 (by decide) ?_
    refine lv_iload_n hx hb dX12_laysLines_36 rfl (lv_at hl 2 rfl) ?_
    refine lv_imul hx hb dX12_laysLines_37 ?_
    refine lv_topi (fun x_489 ex_489 => ?_)
    obtain rfl : x_489 = 200 := ex_489.trans (by decide)
    refine lv_iload_n hx hb dX12_laysLines_38 rfl (lv_at hl 0 rfl) ?_
    refine lv_iadd hx hb dX12_laysLines_39 ?_
    refine lv_topi (fun x_490 ex_490 => ?_)
    obtain rfl : x_490 = (nI (200 + j)) := ex_490.trans (by rw [hj]; exact nI_add 200 i)
    refine k_iald hC hw 15 rfl (vp_in_nI (by omega) (by decide)) dX12_laysLines_40 ?_
    refine k_iast hC hw 15 rfl (vp_in_nI (by omega) (by decide)) dX12_laysLines_41 (fun H locs hw => ?_)
    have hw : kW γ A ((mWz γ z z2 z10 z11 z12 z13 z14 z15 z16 z17 z18 z19 z22 z23 z24 z25 z26 z27 z28 z29 z30 z31 z32 z33 z36 z37 z38 z39 z40 z41 z42 z43 z44 z45 z46 z47 z48 z55 z56 z59 z60 z61 n0 n1 n49 n50 n51 n52 n53 n54 n57 n58 n62 n63 g n rs) ++ (mWa γ z10 z11 z12 z13 z14 z15 z16 z17 z18 z19 z22 z23 a) ++ [(z36, .inl (γ.2.1 0, 6, .inl li)), (z37, .inl (γ.2.1 0, 240, .inl (upd lw ((nI j) : Int32).toNatClampNeg (lw ((nI (200 + j)) : Int32).toNatClampNeg)))), (z38, .inl (γ.2.1 0, 240, .inl la)), (z39, .inl (γ.2.1 0, 240, .inl lb))]) s H locs := hw
    refine lv_aload_n hx hb dX12_laysLines_42 rfl (lv_at hl 1 rfl) ?_
    refine fg_RX12_87 hC hw 0 rfl rfl dX12_laysLines_43 ?_
    refine lv_bipush (v := 40) hx hb dX12_laysLines_46 (by decide) ?_
    refine lv_iload_n hx hb dX12_laysLines_48 rfl (lv_at hl 3 rfl) ?_
    refine lv_imul hx hb dX12_laysLines_49 ?_
    refine lv_topi (fun x_491 ex_491 => ?_)
    obtain rfl : x_491 = 0 := ex_491.trans (by decide)
    refine lv_iload_n hx hb dX12_laysLines_50 rfl (lv_at hl 0 rfl) ?_
    refine lv_iadd hx hb dX12_laysLines_51 ?_
    refine lv_topi (fun x_492 ex_492 => ?_)
    obtain rfl : x_492 = (nI j) := ex_492.trans (by rw [hj]; exact Int32.zero_add _)
    refine lv_aload_n hx hb dX12_laysLines_52 rfl (lv_at hl 1 rfl) ?_
    refine fg_RX12_87 hC hw 0 rfl rfl dX12_laysLines_53 ?_
    refine lv_bipush (v := 40) hx hb dX12_laysLines_56 (by decide) ?_
    refine lv_iload_n hx hb dX12_laysLines_58 rfl (lv_at hl 2 rfl) ?_
    refine lv_imul hx hb dX12_laysLines_59 ?_
    refine lv_topi (fun x_493 ex_493 => ?_)
    obtain rfl : x_493 = 200 := ex_493.trans (by decide)
    refine lv_iload_n hx hb dX12_laysLines_60 rfl (lv_at hl 0 rfl) ?_
    refine lv_iadd hx hb dX12_laysLines_61 ?_
    refine lv_topi (fun x_494 ex_494 => ?_)
    obtain rfl : x_494 = (nI (200 + j)) := ex_494.trans (by rw [hj]; exact nI_add 200 i)
    refine k_iald hC hw 16 rfl (vp_in_nI (by omega) (by decide)) dX12_laysLines_62 ?_
    refine k_iast hC hw 16 rfl (vp_in_nI (by omega) (by decide)) dX12_laysLines_63 (fun H locs hw => ?_)
    have hw : kW γ A ((mWz γ z z2 z10 z11 z12 z13 z14 z15 z16 z17 z18 z19 z22 z23 z24 z25 z26 z27 z28 z29 z30 z31 z32 z33 z36 z37 z38 z39 z40 z41 z42 z43 z44 z45 z46 z47 z48 z55 z56 z59 z60 z61 n0 n1 n49 n50 n51 n52 n53 n54 n57 n58 n62 n63 g n rs) ++ (mWa γ z10 z11 z12 z13 z14 z15 z16 z17 z18 z19 z22 z23 a) ++ [(z36, .inl (γ.2.1 0, 6, .inl li)), (z37, .inl (γ.2.1 0, 240, .inl (upd lw ((nI j) : Int32).toNatClampNeg (lw ((nI (200 + j)) : Int32).toNatClampNeg)))), (z38, .inl (γ.2.1 0, 240, .inl (upd la ((nI j) : Int32).toNatClampNeg (la ((nI (200 + j)) : Int32).toNatClampNeg)))), (z39, .inl (γ.2.1 0, 240, .inl lb))]) s H locs := hw
    refine lv_aload_n hx hb dX12_laysLines_64 rfl (lv_at hl 1 rfl) ?_
    refine fg_RX12_90 hC hw 0 rfl rfl dX12_laysLines_65 ?_
    refine lv_bipush (v := 40) hx hb dX12_laysLines_68 (by decide) ?_
    refine lv_iload_n hx hb dX12_laysLines_70 rfl (lv_at hl 3 rfl) ?_
    refine lv_imul hx hb dX12_laysLines_71 ?_
    refine lv_topi (fun x_495 ex_495 => ?_)
    obtain rfl : x_495 = 0 := ex_495.trans (by decide)
    refine lv_iload_n hx hb dX12_laysLines_72 rfl (lv_at hl 0 rfl) ?_
    refine lv_iadd hx hb dX12_laysLines_73 ?_
    refine lv_topi (fun x_496 ex_496 => ?_)
    obtain rfl : x_496 = (nI j) := ex_496.trans (by rw [hj]; exact Int32.zero_add _)
    refine lv_aload_n hx hb dX12_laysLines_74 rfl (lv_at hl 1 rfl) ?_
    refine fg_RX12_90 hC hw 0 rfl rfl dX12_laysLines_75 ?_
    refine lv_bipush (v := 40) hx hb dX12_laysLines_78 (by decide) ?_
    refine lv_iload_n hx hb dX12_laysLines_80 rfl (lv_at hl 2 rfl) ?_
    refine lv_imul hx hb dX12_laysLines_81 ?_
    refine lv_topi (fun x_497 ex_497 => ?_)
    obtain rfl : x_497 = 200 := ex_497.trans (by decide)
    refine lv_iload_n hx hb dX12_laysLines_82 rfl (lv_at hl 0 rfl) ?_
    refine lv_iadd hx hb dX12_laysLines_83 ?_
    refine lv_topi (fun x_498 ex_498 => ?_)
    obtain rfl : x_498 = (nI (200 + j)) := ex_498.trans (by rw [hj]; exact nI_add 200 i)
    refine k_iald hC hw 17 rfl (vp_in_nI (by omega) (by decide)) dX12_laysLines_84 ?_
    refine k_iast hC hw 17 rfl (vp_in_nI (by omega) (by decide)) dX12_laysLines_85 (fun H locs hw => ?_)
    have hw : kW γ A ((mWz γ z z2 z10 z11 z12 z13 z14 z15 z16 z17 z18 z19 z22 z23 z24 z25 z26 z27 z28 z29 z30 z31 z32 z33 z36 z37 z38 z39 z40 z41 z42 z43 z44 z45 z46 z47 z48 z55 z56 z59 z60 z61 n0 n1 n49 n50 n51 n52 n53 n54 n57 n58 n62 n63 g n rs) ++ (mWa γ z10 z11 z12 z13 z14 z15 z16 z17 z18 z19 z22 z23 a) ++ [(z36, .inl (γ.2.1 0, 6, .inl li)), (z37, .inl (γ.2.1 0, 240, .inl (upd lw ((nI j) : Int32).toNatClampNeg (lw ((nI (200 + j)) : Int32).toNatClampNeg)))), (z38, .inl (γ.2.1 0, 240, .inl (upd la ((nI j) : Int32).toNatClampNeg (la ((nI (200 + j)) : Int32).toNatClampNeg)))), (z39, .inl (γ.2.1 0, 240, .inl (upd lb ((nI j) : Int32).toNatClampNeg (lb ((nI (200 + j)) : Int32).toNatClampNeg))))]) s H locs := hw
    refine lv_iinc (v := (nI (i + 1))) (lv' := [(3, .int (nI (i + 1))), (0, .ref z), (1, .int 5), (2, .int 0)]) hx hb dX12_laysLines_86 hl (k := 0) rfl (nI_1 i) (by decide) rfl (fun ls hl => ?_)
    refine lv_goto (tgt := 14) hx hb dX12_laysLines_89 (by decide) ?_
    have hE : (F_m_layl li (k + 1) j lw la lb) = (F_m_layl li k (j + 1) (upd lw ((nI j) : Int32).toNatClampNeg (lw ((nI (200 + j)) : Int32).toNatClampNeg)) (upd la ((nI j) : Int32).toNatClampNeg (la ((nI (200 + j)) : Int32).toNatClampNeg)) (upd lb ((nI j) : Int32).toNatClampNeg (lb ((nI (200 + j)) : Int32).toNatClampNeg))) := by rw [F_m_layl_s]
    rw [hE]
    exact ih (i + 1) (j + 1) (upd lw ((nI j) : Int32).toNatClampNeg (lw ((nI (200 + j)) : Int32).toNatClampNeg)) (upd la ((nI j) : Int32).toNatClampNeg (la ((nI (200 + j)) : Int32).toNatClampNeg)) (upd lb ((nI j) : Int32).toNatClampNeg (lb ((nI (200 + j)) : Int32).toNatClampNeg)) (by omega) (by omega) _ _ (kW.sub hw [0, 1, 2, 3, 4, 5, 6, 7, 8, 9, 10, 11, 12, 13, 14, 15, 16, 17] rfl rfl) _ (lv_sub hl [0, 1, 2, 3] rfl)

def F_m_laysLines (li : Nat → Int32) (lw : Nat → Int32) (la : Nat → Int32) (lb : Nat → Int32) : (Nat → Int32) × (Nat → Int32) × (Nat → Int32) × (Nat → Int32) :=
  ((upd li 0 (li 5)), ((F_m_layl (upd li 0 (li 5)) 40 0 lw la lb).1), ((F_m_layl (upd li 0 (li 5)) 40 0 lw la lb).2.1), ((F_m_layl (upd li 0 (li 5)) 40 0 lw la lb).2.2))
set_option maxHeartbeats 4000000 in
set_option maxRecDepth 100000 in
theorem c_m_laysLines (γ : kΓ) (l : Launch) (z : Nat) (z2 : Nat) (z10 : Nat) (z11 : Nat) (z12 : Nat) (z13 : Nat) (z14 : Nat) (z15 : Nat) (z16 : Nat) (z17 : Nat) (z18 : Nat) (z19 : Nat) (z22 : Nat) (z23 : Nat) (z24 : Nat) (z25 : Nat) (z26 : Nat) (z27 : Nat) (z28 : Nat) (z29 : Nat) (z30 : Nat) (z31 : Nat) (z32 : Nat) (z33 : Nat) (z36 : Nat) (z37 : Nat) (z38 : Nat) (z39 : Nat) (z40 : Nat) (z41 : Nat) (z42 : Nat) (z43 : Nat) (z44 : Nat) (z45 : Nat) (z46 : Nat) (z47 : Nat) (z48 : Nat) (z55 : Nat) (z56 : Nat) (z59 : Nat) (z60 : Nat) (z61 : Nat) (n0 : Int32) (n1 : Int32) (n49 : Int32) (n50 : Int32) (n51 : Int32) (n52 : Int32) (n53 : Int32) (n54 : Int32) (n57 : Int32) (n58 : Int32) (n62 : Int32) (n63 : Int64) (n : Nat) (g : Nat → Int32) (rs : mRS) (a : mAS) (li : Nat → Int32) (lw : Nat → Int32) (la : Nat → Int32) (lb : Nat → Int32) : kM γ l yX12_laysLines cX12_laysLines 4 none ({ frames := 0, cells := 0, slots := 0, locals := 0 } : Room) [.ref z, .int 5, .int 0] ((mWz γ z z2 z10 z11 z12 z13 z14 z15 z16 z17 z18 z19 z22 z23 z24 z25 z26 z27 z28 z29 z30 z31 z32 z33 z36 z37 z38 z39 z40 z41 z42 z43 z44 z45 z46 z47 z48 z55 z56 z59 z60 z61 n0 n1 n49 n50 n51 n52 n53 n54 n57 n58 n62 n63 g n rs) ++ (mWa γ z10 z11 z12 z13 z14 z15 z16 z17 z18 z19 z22 z23 a) ++ [(z36, .inl (γ.2.1 0, 6, .inl li)), (z37, .inl (γ.2.1 0, 240, .inl lw)), (z38, .inl (γ.2.1 0, 240, .inl la)), (z39, .inl (γ.2.1 0, 240, .inl lb))]) (fun r w1 => r = none ∧ w1 = ((mWz γ z z2 z10 z11 z12 z13 z14 z15 z16 z17 z18 z19 z22 z23 z24 z25 z26 z27 z28 z29 z30 z31 z32 z33 z36 z37 z38 z39 z40 z41 z42 z43 z44 z45 z46 z47 z48 z55 z56 z59 z60 z61 n0 n1 n49 n50 n51 n52 n53 n54 n57 n58 n62 n63 g n rs) ++ (mWa γ z10 z11 z12 z13 z14 z15 z16 z17 z18 z19 z22 z23 a) ++ [(z36, .inl (γ.2.1 0, 6, .inl ((F_m_laysLines li lw la lb).1))), (z37, .inl (γ.2.1 0, 240, .inl ((F_m_laysLines li lw la lb).2.1))), (z38, .inl (γ.2.1 0, 240, .inl ((F_m_laysLines li lw la lb).2.2.1))), (z39, .inl (γ.2.1 0, 240, .inl ((F_m_laysLines li lw la lb).2.2.2)))])) := by
  refine k_ofW (by decide) (Nat.le_of_ble_eq_true rfl) ?_
  intro p9 e s m below meth c A ls hC hr hlocks hname hw hl
  have hx := hC.1
  have hb := hC.2.1
  have hl : lv_has ls 4 [(0, .ref z), (1, .int 5), (2, .int 0)] := hl
  refine lv_aload_n hx hb dX12_laysLines_0 rfl (lv_at hl 0 rfl) ?_
  refine fg_RX12_81 hC hw 0 rfl rfl dX12_laysLines_1 ?_
  refine lv_iload_n hx hb dX12_laysLines_4 rfl (lv_at hl 2 rfl) ?_
  refine lv_aload_n hx hb dX12_laysLines_5 rfl (lv_at hl 0 rfl) ?_
  refine fg_RX12_81 hC hw 0 rfl rfl dX12_laysLines_6 ?_
  refine lv_iload_n hx hb dX12_laysLines_9 rfl (lv_at hl 1 rfl) ?_
  refine k_iald hC hw 14 rfl (k_in0 (by decide)) dX12_laysLines_10 ?_
  refine lv_topi (fun x_500 ex_500 => ?_)
  obtain rfl : x_500 = (li 5) := ex_500
  refine k_iast hC hw 14 rfl (k_in0 (by decide)) dX12_laysLines_11 (fun H locs hw => ?_)
  have hw : kW γ A ((mWz γ z z2 z10 z11 z12 z13 z14 z15 z16 z17 z18 z19 z22 z23 z24 z25 z26 z27 z28 z29 z30 z31 z32 z33 z36 z37 z38 z39 z40 z41 z42 z43 z44 z45 z46 z47 z48 z55 z56 z59 z60 z61 n0 n1 n49 n50 n51 n52 n53 n54 n57 n58 n62 n63 g n rs) ++ (mWa γ z10 z11 z12 z13 z14 z15 z16 z17 z18 z19 z22 z23 a) ++ [(z36, .inl (γ.2.1 0, 6, .inl (upd li 0 (li 5)))), (z37, .inl (γ.2.1 0, 240, .inl lw)), (z38, .inl (γ.2.1 0, 240, .inl la)), (z39, .inl (γ.2.1 0, 240, .inl lb))]) s H locs := hw
  refine lv_iconst (v := 0) hx hb dX12_laysLines_12 (by decide) ?_
  refine lv_istore_n (lv' := [(3, .int 0), (0, .ref z), (1, .int 5), (2, .int 0)]) hx hb dX12_laysLines_13 rfl hl (by decide) rfl (fun ls hl => ?_)
  have hE : (F_m_laysLines li lw la lb) = ((upd li 0 (li 5)), ((F_m_layl (upd li 0 (li 5)) 40 0 lw la lb).1), ((F_m_layl (upd li 0 (li 5)) 40 0 lw la lb).2.1), ((F_m_layl (upd li 0 (li 5)) 40 0 lw la lb).2.2)) := by unfold F_m_laysLines; rfl
  rw [hE]
  exact lp_m_layl z z2 z10 z11 z12 z13 z14 z15 z16 z17 z18 z19 z22 z23 z24 z25 z26 z27 z28 z29 z30 z31 z32 z33 z36 z37 z38 z39 z40 z41 z42 z43 z44 z45 z46 z47 z48 z55 z56 z59 z60 z61 n0 n1 n49 n50 n51 n52 n53 n54 n57 n58 n62 n63 n g rs a (upd li 0 (li 5)) hC hr hlocks 40 0 0 lw la lb rfl rfl _ _ (kW.sub hw [0, 1, 2, 3, 4, 5, 6, 7, 8, 9, 10, 11, 12, 13, 14, 15, 16, 17] rfl rfl) _ (lv_sub hl [0, 1, 2, 3] rfl)

def F_m_ryl (g : Nat → Int32) (n : Nat) (a : mAS) : Nat → mRS → (Nat → Int32) → (Nat → Int32) → (Nat → Int32) → (Nat → Int32) → Option (Int32 × mRS × (Nat → Int32) × (Nat → Int32) × (Nat → Int32) × (Nat → Int32))
  | 0, rs, li, lw, la, lb => none
  | k + 1, rs, li, lw, la, lb => if (mk g n (rs.2.1)) = 0 then some (0, rs, ((F_m_laysLines li lw la lb).1), ((F_m_laysLines li lw la lb).2.1), ((F_m_laysLines li lw la lb).2.2.1), ((F_m_laysLines li lw la lb).2.2.2)) else (if ((F_m_readsLine g n rs a li lw la lb).1) = 0 then some ((((F_m_readsLine g n rs a li lw la lb).2.1).1), ((F_m_readsLine g n rs a li lw la lb).2.1), ((F_m_readsLine g n rs a li lw la lb).2.2.1), ((F_m_readsLine g n rs a li lw la lb).2.2.2.1), ((F_m_readsLine g n rs a li lw la lb).2.2.2.2.1), ((F_m_readsLine g n rs a li lw la lb).2.2.2.2.2)) else (F_m_ryl g n a k ((F_m_readsLine g n rs a li lw la lb).2.1) ((F_m_readsLine g n rs a li lw la lb).2.2.1) ((F_m_readsLine g n rs a li lw la lb).2.2.2.1) ((F_m_readsLine g n rs a li lw la lb).2.2.2.2.1) ((F_m_readsLine g n rs a li lw la lb).2.2.2.2.2)))
theorem F_m_ryl_s {g : Nat → Int32} {n : Nat} {a : mAS} {rs : mRS} {li : (Nat → Int32)} {lw : (Nat → Int32)} {la : (Nat → Int32)} {lb : (Nat → Int32)} {k : Nat} : (F_m_ryl g n a (k + 1) rs li lw la lb) = (if (mk g n (rs.2.1)) = 0 then some (0, rs, ((F_m_laysLines li lw la lb).1), ((F_m_laysLines li lw la lb).2.1), ((F_m_laysLines li lw la lb).2.2.1), ((F_m_laysLines li lw la lb).2.2.2)) else (if ((F_m_readsLine g n rs a li lw la lb).1) = 0 then some ((((F_m_readsLine g n rs a li lw la lb).2.1).1), ((F_m_readsLine g n rs a li lw la lb).2.1), ((F_m_readsLine g n rs a li lw la lb).2.2.1), ((F_m_readsLine g n rs a li lw la lb).2.2.2.1), ((F_m_readsLine g n rs a li lw la lb).2.2.2.2.1), ((F_m_readsLine g n rs a li lw la lb).2.2.2.2.2)) else (F_m_ryl g n a k ((F_m_readsLine g n rs a li lw la lb).2.1) ((F_m_readsLine g n rs a li lw la lb).2.2.1) ((F_m_readsLine g n rs a li lw la lb).2.2.2.1) ((F_m_readsLine g n rs a li lw la lb).2.2.2.2.1) ((F_m_readsLine g n rs a li lw la lb).2.2.2.2.2)))) := rfl
set_option maxHeartbeats 4000000 in
set_option maxRecDepth 100000 in
theorem lp_m_ryl {γ : kΓ} {l : Launch} {p : Program} {e : Env} {s : State} {m : MethodId} {below : List Frame} {meth : Method} {c : Code} {A : Nat → Prop} (z : Nat) (z2 : Nat) (z10 : Nat) (z11 : Nat) (z12 : Nat) (z13 : Nat) (z14 : Nat) (z15 : Nat) (z16 : Nat) (z17 : Nat) (z18 : Nat) (z19 : Nat) (z22 : Nat) (z23 : Nat) (z24 : Nat) (z25 : Nat) (z26 : Nat) (z27 : Nat) (z28 : Nat) (z29 : Nat) (z30 : Nat) (z31 : Nat) (z32 : Nat) (z33 : Nat) (z36 : Nat) (z37 : Nat) (z38 : Nat) (z39 : Nat) (z40 : Nat) (z41 : Nat) (z42 : Nat) (z43 : Nat) (z44 : Nat) (z45 : Nat) (z46 : Nat) (z47 : Nat) (z48 : Nat) (z55 : Nat) (z56 : Nat) (z59 : Nat) (z60 : Nat) (z61 : Nat) (n0 : Int32) (n1 : Int32) (n49 : Int32) (n50 : Int32) (n51 : Int32) (n52 : Int32) (n53 : Int32) (n54 : Int32) (n57 : Int32) (n58 : Int32) (n62 : Int32) (n63 : Int64) (n : Nat) (g : Nat → Int32) (a : mAS) (hn : n ≤ 1000) (hM0 : mO0 a) (hC : kC γ p s m [.ref z].toArray c cX12_years 1 RX12 A) (hr : meth.sig.returnType = (some .int)) (hlocks : meth.locks = false) : ∀ (k : Nat) (rs : mRS) (li : (Nat → Int32)) (lw : (Nat → Int32)) (la : (Nat → Int32)) (lb : (Nat → Int32)) (res : Int32 × mRS × (Nat → Int32) × (Nat → Int32) × (Nat → Int32) × (Nat → Int32)), (F_m_ryl g n a k rs li lw la lb) = some res → (0 ≤ (li 5).toInt ∧ (li 5).toInt ≤ 40) → ∀ (H : Heap) (locs : List Loc), kW γ A ((mWz γ z z2 z10 z11 z12 z13 z14 z15 z16 z17 z18 z19 z22 z23 z24 z25 z26 z27 z28 z29 z30 z31 z32 z33 z36 z37 z38 z39 z40 z41 z42 z43 z44 z45 z46 z47 z48 z55 z56 z59 z60 z61 n0 n1 n49 n50 n51 n52 n53 n54 n57 n58 n62 n63 g n rs) ++ (mWa γ z10 z11 z12 z13 z14 z15 z16 z17 z18 z19 z22 z23 a) ++ [(z36, .inl (γ.2.1 0, 6, .inl li)), (z37, .inl (γ.2.1 0, 240, .inl lw)), (z38, .inl (γ.2.1 0, 240, .inl la)), (z39, .inl (γ.2.1 0, 240, .inl lb))]) s H locs → ∀ ls : Array Slot, lv_has ls 1 [(0, .ref z)] → W p l e ({ frames := 4, cells := 0, slots := 0, locals := 103 } : Room) s m [.ref z].toArray below meth c H locs 0 0 (MQ below (kQ γ A (fun r w1 => r = some (.int (res.1)) ∧ w1 = ((mWz γ z z2 z10 z11 z12 z13 z14 z15 z16 z17 z18 z19 z22 z23 z24 z25 z26 z27 z28 z29 z30 z31 z32 z33 z36 z37 z38 z39 z40 z41 z42 z43 z44 z45 z46 z47 z48 z55 z56 z59 z60 z61 n0 n1 n49 n50 n51 n52 n53 n54 n57 n58 n62 n63 g n (res.2.1)) ++ (mWa γ z10 z11 z12 z13 z14 z15 z16 z17 z18 z19 z22 z23 a) ++ [(z36, .inl (γ.2.1 0, 6, .inl (res.2.2.1))), (z37, .inl (γ.2.1 0, 240, .inl (res.2.2.2.1))), (z38, .inl (γ.2.1 0, 240, .inl (res.2.2.2.2.1))), (z39, .inl (γ.2.1 0, 240, .inl (res.2.2.2.2.2)))]))) [.ref z].toArray s 0 0 A) (F0 m 16 ls []) := by
  have hx := hC.1
  have hb := hC.2.1
  intro k
  induction k with
  | zero =>
    intro rs li lw la lb res hres; exact absurd hres (by intro h; cases h)
  | succ k ih =>
    intro rs li lw la lb res hres hL H locs hw ls hl
    refine lv_aload_n hx hb dX12_years_16 rfl (lv_at hl 0 rfl) ?_
    refine fg_RX12_167 hC hw 0 rfl rfl dX12_years_17 ?_
    refine lv_if_eq (tgt := 35) hx hb dX12_years_20 (by decide) (fun c_503 => ?_) (fun c_503 => ?_)
    · refine lv_aload_n hx hb dX12_years_35 rfl (lv_at hl 0 rfl) ?_
      refine lv_iconst (v := 5) hx hb dX12_years_36 (by decide) ?_
      refine lv_iconst (v := 0) hx hb dX12_years_37 (by decide) ?_
      refine k_V (wr := []) 2 gw_1537 gw_1539 gp_78 gw_15 gw_1540 hd_X12_laysLines hC hw (c_m_laysLines γ l z z2 z10 z11 z12 z13 z14 z15 z16 z17 z18 z19 z22 z23 z24 z25 z26 z27 z28 z29 z30 z31 z32 z33 z36 z37 z38 z39 z40 z41 z42 z43 z44 z45 z46 z47 z48 z55 z56 z59 z60 z61 n0 n1 n49 n50 n51 n52 n53 n54 n57 n58 n62 n63 n g rs a li lw la lb) ⟨by decide, by decide⟩ ⟨by decide, by decide⟩ hl.1 rfl 0 rfl rfl rfl (Nat.le_of_ble_eq_true rfl) [0, 1, 2, 3, 4, 5, 6, 7, 8, 9, 10, 11, 12, 13, 14, 15, 16, 17] [] rfl rfl rfl rfl (by decide) dX12_years_38 (fun r w1 H locs hq hw => ?_)
      obtain ⟨rfl, rfl⟩ := hq
      have hw : kW γ A ((mWz γ z z2 z10 z11 z12 z13 z14 z15 z16 z17 z18 z19 z22 z23 z24 z25 z26 z27 z28 z29 z30 z31 z32 z33 z36 z37 z38 z39 z40 z41 z42 z43 z44 z45 z46 z47 z48 z55 z56 z59 z60 z61 n0 n1 n49 n50 n51 n52 n53 n54 n57 n58 n62 n63 g n rs) ++ (mWa γ z10 z11 z12 z13 z14 z15 z16 z17 z18 z19 z22 z23 a) ++ [(z36, .inl (γ.2.1 0, 6, .inl ((F_m_laysLines li lw la lb).1))), (z37, .inl (γ.2.1 0, 240, .inl ((F_m_laysLines li lw la lb).2.1))), (z38, .inl (γ.2.1 0, 240, .inl ((F_m_laysLines li lw la lb).2.2.1))), (z39, .inl (γ.2.1 0, 240, .inl ((F_m_laysLines li lw la lb).2.2.2)))]) s H locs := hw
      refine W.eq (g2 := F0 m 41 ls []) rfl ?_
      refine lv_iconst (v := 0) hx hb dX12_years_41 (by decide) ?_
      have hE : (F_m_ryl g n a (k + 1) rs li lw la lb) = some (0, rs, ((F_m_laysLines li lw la lb).1), ((F_m_laysLines li lw la lb).2.1), ((F_m_laysLines li lw la lb).2.2.1), ((F_m_laysLines li lw la lb).2.2.2)) := by rw [F_m_ryl_s, if_pos c_503]
      have hE : res = (0, rs, ((F_m_laysLines li lw la lb).1), ((F_m_laysLines li lw la lb).2.1), ((F_m_laysLines li lw la lb).2.2.1), ((F_m_laysLines li lw la lb).2.2.2)) := Option.some.inj (hres.symm.trans hE)
      have hw : kW γ A ((mWz γ z z2 z10 z11 z12 z13 z14 z15 z16 z17 z18 z19 z22 z23 z24 z25 z26 z27 z28 z29 z30 z31 z32 z33 z36 z37 z38 z39 z40 z41 z42 z43 z44 z45 z46 z47 z48 z55 z56 z59 z60 z61 n0 n1 n49 n50 n51 n52 n53 n54 n57 n58 n62 n63 g n (res.2.1)) ++ (mWa γ z10 z11 z12 z13 z14 z15 z16 z17 z18 z19 z22 z23 a) ++ [(z36, .inl (γ.2.1 0, 6, .inl (res.2.2.1))), (z37, .inl (γ.2.1 0, 240, .inl (res.2.2.2.1))), (z38, .inl (γ.2.1 0, 240, .inl (res.2.2.2.2.1))), (z39, .inl (γ.2.1 0, 240, .inl (res.2.2.2.2.2)))]) s H locs := by first | (rw [hE]; exact hw) | exact hw
      exact k_iret hC hr hlocks hw [0, 1, 2, 3, 4, 5, 6, 7, 8, 9, 10, 11, 12, 13, 14, 15, 16, 17] rfl rfl ⟨by rw [hE], rfl⟩ (by decide) (by decide) dX12_years_42
    · refine lv_aload_n hx hb dX12_years_23 rfl (lv_at hl 0 rfl) ?_
      refine k_V (wr := []) 0 gw_1533 gw_1535 gp_77 gw_15 gw_1536 hd_X12_readsLine hC hw (c_m_readsLine γ l z z2 z10 z11 z12 z13 z14 z15 z16 z17 z18 z19 z22 z23 z24 z25 z26 z27 z28 z29 z30 z31 z32 z33 z36 z37 z38 z39 z40 z41 z42 z43 z44 z45 z46 z47 z48 z55 z56 z59 z60 z61 n0 n1 n49 n50 n51 n52 n53 n54 n57 n58 n62 n63 n g rs a li lw la lb hn hM0 hL) ⟨by decide, by decide⟩ ⟨by decide, by decide⟩ hl.1 rfl 0 rfl rfl rfl (Nat.le_of_ble_eq_true rfl) [0, 1, 2, 3, 4, 5, 6, 7, 8, 9, 10, 11, 12, 13, 14, 15, 16, 17] [] rfl rfl rfl rfl (by decide) dX12_years_24 (fun r w1 H locs hq hw => ?_)
      obtain ⟨rfl, rfl⟩ := hq
      have hw : kW γ A ((mWz γ z z2 z10 z11 z12 z13 z14 z15 z16 z17 z18 z19 z22 z23 z24 z25 z26 z27 z28 z29 z30 z31 z32 z33 z36 z37 z38 z39 z40 z41 z42 z43 z44 z45 z46 z47 z48 z55 z56 z59 z60 z61 n0 n1 n49 n50 n51 n52 n53 n54 n57 n58 n62 n63 g n ((F_m_readsLine g n rs a li lw la lb).2.1)) ++ (mWa γ z10 z11 z12 z13 z14 z15 z16 z17 z18 z19 z22 z23 a) ++ [(z36, .inl (γ.2.1 0, 6, .inl ((F_m_readsLine g n rs a li lw la lb).2.2.1))), (z37, .inl (γ.2.1 0, 240, .inl ((F_m_readsLine g n rs a li lw la lb).2.2.2.1))), (z38, .inl (γ.2.1 0, 240, .inl ((F_m_readsLine g n rs a li lw la lb).2.2.2.2.1))), (z39, .inl (γ.2.1 0, 240, .inl ((F_m_readsLine g n rs a li lw la lb).2.2.2.2.2)))]) s H locs := hw
      refine W.eq (g2 := F0 m 27 ls [.int ((F_m_readsLine g n rs a li lw la lb).1)]) rfl ?_
      refine lv_if_ne (tgt := 16) hx hb dX12_years_27 (by decide) (fun c_504 => ?_) (fun c_504 => ?_)
      · have hE : (F_m_ryl g n a (k + 1) rs li lw la lb) = (F_m_ryl g n a k ((F_m_readsLine g n rs a li lw la lb).2.1) ((F_m_readsLine g n rs a li lw la lb).2.2.1) ((F_m_readsLine g n rs a li lw la lb).2.2.2.1) ((F_m_readsLine g n rs a li lw la lb).2.2.2.2.1) ((F_m_readsLine g n rs a li lw la lb).2.2.2.2.2)) := by rw [F_m_ryl_s, if_neg c_503, if_neg c_504]
        exact ih ((F_m_readsLine g n rs a li lw la lb).2.1) ((F_m_readsLine g n rs a li lw la lb).2.2.1) ((F_m_readsLine g n rs a li lw la lb).2.2.2.1) ((F_m_readsLine g n rs a li lw la lb).2.2.2.2.1) ((F_m_readsLine g n rs a li lw la lb).2.2.2.2.2) res (hE.symm.trans hres) (okl_readsLine hL) _ _ (kW.sub hw [0, 1, 2, 3, 4, 5, 6, 7, 8, 9, 10, 11, 12, 13, 14, 15, 16, 17] rfl rfl) _ (lv_sub hl [0] rfl)
      · refine lv_aload_n hx hb dX12_years_30 rfl (lv_at hl 0 rfl) ?_
        refine fg_RX12_178 hC hw 0 rfl rfl dX12_years_31 ?_
        have hE : (F_m_ryl g n a (k + 1) rs li lw la lb) = some ((((F_m_readsLine g n rs a li lw la lb).2.1).1), ((F_m_readsLine g n rs a li lw la lb).2.1), ((F_m_readsLine g n rs a li lw la lb).2.2.1), ((F_m_readsLine g n rs a li lw la lb).2.2.2.1), ((F_m_readsLine g n rs a li lw la lb).2.2.2.2.1), ((F_m_readsLine g n rs a li lw la lb).2.2.2.2.2)) := by rw [F_m_ryl_s, if_neg c_503, if_pos c_504]
        have hE : res = ((((F_m_readsLine g n rs a li lw la lb).2.1).1), ((F_m_readsLine g n rs a li lw la lb).2.1), ((F_m_readsLine g n rs a li lw la lb).2.2.1), ((F_m_readsLine g n rs a li lw la lb).2.2.2.1), ((F_m_readsLine g n rs a li lw la lb).2.2.2.2.1), ((F_m_readsLine g n rs a li lw la lb).2.2.2.2.2)) := Option.some.inj (hres.symm.trans hE)
        have hw : kW γ A ((mWz γ z z2 z10 z11 z12 z13 z14 z15 z16 z17 z18 z19 z22 z23 z24 z25 z26 z27 z28 z29 z30 z31 z32 z33 z36 z37 z38 z39 z40 z41 z42 z43 z44 z45 z46 z47 z48 z55 z56 z59 z60 z61 n0 n1 n49 n50 n51 n52 n53 n54 n57 n58 n62 n63 g n (res.2.1)) ++ (mWa γ z10 z11 z12 z13 z14 z15 z16 z17 z18 z19 z22 z23 a) ++ [(z36, .inl (γ.2.1 0, 6, .inl (res.2.2.1))), (z37, .inl (γ.2.1 0, 240, .inl (res.2.2.2.1))), (z38, .inl (γ.2.1 0, 240, .inl (res.2.2.2.2.1))), (z39, .inl (γ.2.1 0, 240, .inl (res.2.2.2.2.2)))]) s H locs := by first | (rw [hE]; exact hw) | exact hw
        exact k_iret hC hr hlocks hw [0, 1, 2, 3, 4, 5, 6, 7, 8, 9, 10, 11, 12, 13, 14, 15, 16, 17] rfl rfl ⟨by rw [hE], rfl⟩ (by decide) (by decide) dX12_years_34

set_option maxHeartbeats 4000000 in
set_option maxRecDepth 100000 in
theorem c_m_years (γ : kΓ) (l : Launch) (z : Nat) (z2 : Nat) (z10 : Nat) (z11 : Nat) (z12 : Nat) (z13 : Nat) (z14 : Nat) (z15 : Nat) (z16 : Nat) (z17 : Nat) (z18 : Nat) (z19 : Nat) (z22 : Nat) (z23 : Nat) (z24 : Nat) (z25 : Nat) (z26 : Nat) (z27 : Nat) (z28 : Nat) (z29 : Nat) (z30 : Nat) (z31 : Nat) (z32 : Nat) (z33 : Nat) (z36 : Nat) (z37 : Nat) (z38 : Nat) (z39 : Nat) (z40 : Nat) (z41 : Nat) (z42 : Nat) (z43 : Nat) (z44 : Nat) (z45 : Nat) (z46 : Nat) (z47 : Nat) (z48 : Nat) (z55 : Nat) (z56 : Nat) (z59 : Nat) (z60 : Nat) (z61 : Nat) (n0 : Int32) (n3 : Int32) (n4 : Int32) (n5 : Int32) (n6 : Int32) (n7 : Int64) (n8 : Int32) (n9 : Int32) (n21 : Int32) (n34 : Int32) (n35 : Int64) (n49 : Int32) (n50 : Int32) (n51 : Int32) (n52 : Int32) (n53 : Int32) (n54 : Int32) (n57 : Int32) (n58 : Int32) (n62 : Int32) (n63 : Int64) (n : Nat) (cd : Nat) (g : Nat → Int32) (a : mAS) (li : Nat → Int32) (lw : Nat → Int32) (la : Nat → Int32) (lb : Nat → Int32) (res : Int32 × mRS × (Nat → Int32) × (Nat → Int32) × (Nat → Int32) × (Nat → Int32)) (hn : n ≤ 1000) (hM0 : mO0 a) (hres : F_m_ryl g n a 1001 (n9, 0, n34, n35, n21, cd) (upd li 5 0) lw la lb = some res) : kM γ l yX12_years cX12_years 1 ((some .int)) ({ frames := 4, cells := 0, slots := 0, locals := 103 } : Room) [.ref z] ([(z, .inr (11, [.int n0, .int (nI n), .ref z2, .int n3, .int n4, .int n5, .int n6, .long n7, .int n8, .int n9, .ref z10, .ref z11, .ref z12, .ref z13, .ref z14, .ref z15, .ref z16, .ref z17, .ref z18, .ref z19, .int (nI cd), .int n21, .ref z22, .ref z23, .ref z24, .ref z25, .ref z26, .ref z27, .ref z28, .ref z29, .ref z30, .ref z31, .ref z32, .ref z33, .int n34, .long n35, .ref z36, .ref z37, .ref z38, .ref z39, .ref z40, .ref z41, .ref z42, .ref z43, .ref z44, .ref z45, .ref z46, .ref z47, .ref z48, .int n49, .int n50, .int n51, .int n52, .int n53, .int n54, .ref z55, .ref z56, .int n57, .int n58, .ref z59, .ref z60, .ref z61, .int n62, .long n63])), (z2, .inl (γ.2.1 0, 1000, .inl g))] ++ (mWa γ z10 z11 z12 z13 z14 z15 z16 z17 z18 z19 z22 z23 a) ++ [(z36, .inl (γ.2.1 0, 6, .inl li)), (z37, .inl (γ.2.1 0, 240, .inl lw)), (z38, .inl (γ.2.1 0, 240, .inl la)), (z39, .inl (γ.2.1 0, 240, .inl lb))]) (fun r w1 => r = some (.int (res.1)) ∧ w1 = ((mWz γ z z2 z10 z11 z12 z13 z14 z15 z16 z17 z18 z19 z22 z23 z24 z25 z26 z27 z28 z29 z30 z31 z32 z33 z36 z37 z38 z39 z40 z41 z42 z43 z44 z45 z46 z47 z48 z55 z56 z59 z60 z61 0 0 n49 n50 n51 n52 n53 n54 n57 n58 n62 n63 g n (res.2.1)) ++ (mWa γ z10 z11 z12 z13 z14 z15 z16 z17 z18 z19 z22 z23 a) ++ [(z36, .inl (γ.2.1 0, 6, .inl (res.2.2.1))), (z37, .inl (γ.2.1 0, 240, .inl (res.2.2.2.1))), (z38, .inl (γ.2.1 0, 240, .inl (res.2.2.2.2.1))), (z39, .inl (γ.2.1 0, 240, .inl (res.2.2.2.2.2)))])) := by
  refine k_ofW (by decide) (Nat.le_of_ble_eq_true rfl) ?_
  intro p9 e s m below meth c A ls hC hr hlocks hname hw hl
  have hx := hC.1
  have hb := hC.2.1
  have hl : lv_has ls 1 [(0, .ref z)] := hl
  refine lv_aload_n hx hb dX12_years_0 rfl (lv_at hl 0 rfl) ?_
  refine lv_iconst (v := 0) hx hb dX12_years_1 (by decide) ?_
  refine fs_RX12_143 hC hw 0 rfl rfl rfl (Nat.le_of_ble_eq_true rfl) dX12_years_2 (fun H locs hw => ?_)
  have hw : kW γ A ([(z, .inr (11, [.int 0, .int (nI n), .ref z2, .int n3, .int n4, .int n5, .int n6, .long n7, .int n8, .int n9, .ref z10, .ref z11, .ref z12, .ref z13, .ref z14, .ref z15, .ref z16, .ref z17, .ref z18, .ref z19, .int (nI cd), .int n21, .ref z22, .ref z23, .ref z24, .ref z25, .ref z26, .ref z27, .ref z28, .ref z29, .ref z30, .ref z31, .ref z32, .ref z33, .int n34, .long n35, .ref z36, .ref z37, .ref z38, .ref z39, .ref z40, .ref z41, .ref z42, .ref z43, .ref z44, .ref z45, .ref z46, .ref z47, .ref z48, .int n49, .int n50, .int n51, .int n52, .int n53, .int n54, .ref z55, .ref z56, .int n57, .int n58, .ref z59, .ref z60, .ref z61, .int n62, .long n63])), (z2, .inl (γ.2.1 0, 1000, .inl g))] ++ (mWa γ z10 z11 z12 z13 z14 z15 z16 z17 z18 z19 z22 z23 a) ++ [(z36, .inl (γ.2.1 0, 6, .inl li)), (z37, .inl (γ.2.1 0, 240, .inl lw)), (z38, .inl (γ.2.1 0, 240, .inl la)), (z39, .inl (γ.2.1 0, 240, .inl lb))]) s H locs := hw
  refine lv_aload_n hx hb dX12_years_5 rfl (lv_at hl 0 rfl) ?_
  refine fg_RX12_81 hC hw 0 rfl rfl dX12_years_6 ?_
  refine lv_iconst (v := 5) hx hb dX12_years_9 (by decide) ?_
  refine lv_iconst (v := 0) hx hb dX12_years_10 (by decide) ?_
  refine k_iast hC hw 14 rfl (k_in0 (by decide)) dX12_years_11 (fun H locs hw => ?_)
  have hw : kW γ A ([(z, .inr (11, [.int 0, .int (nI n), .ref z2, .int n3, .int n4, .int n5, .int n6, .long n7, .int n8, .int n9, .ref z10, .ref z11, .ref z12, .ref z13, .ref z14, .ref z15, .ref z16, .ref z17, .ref z18, .ref z19, .int (nI cd), .int n21, .ref z22, .ref z23, .ref z24, .ref z25, .ref z26, .ref z27, .ref z28, .ref z29, .ref z30, .ref z31, .ref z32, .ref z33, .int n34, .long n35, .ref z36, .ref z37, .ref z38, .ref z39, .ref z40, .ref z41, .ref z42, .ref z43, .ref z44, .ref z45, .ref z46, .ref z47, .ref z48, .int n49, .int n50, .int n51, .int n52, .int n53, .int n54, .ref z55, .ref z56, .int n57, .int n58, .ref z59, .ref z60, .ref z61, .int n62, .long n63])), (z2, .inl (γ.2.1 0, 1000, .inl g))] ++ (mWa γ z10 z11 z12 z13 z14 z15 z16 z17 z18 z19 z22 z23 a) ++ [(z36, .inl (γ.2.1 0, 6, .inl (upd li 5 0))), (z37, .inl (γ.2.1 0, 240, .inl lw)), (z38, .inl (γ.2.1 0, 240, .inl la)), (z39, .inl (γ.2.1 0, 240, .inl lb))]) s H locs := hw
  refine lv_aload_n hx hb dX12_years_12 rfl (lv_at hl 0 rfl) ?_
  refine k_V (wr := ((mWa γ z10 z11 z12 z13 z14 z15 z16 z17 z18 z19 z22 z23 a) ++ [(z36, .inl (γ.2.1 0, 6, .inl (upd li 5 0))), (z37, .inl (γ.2.1 0, 240, .inl lw)), (z38, .inl (γ.2.1 0, 240, .inl la)), (z39, .inl (γ.2.1 0, 240, .inl lb))])) 0 gw_1398 gw_1400 gp_53 gw_15 gw_1401 hd_X12_begins hC hw (c_m_begins γ l z z2 z10 z11 z12 z13 z14 z15 z16 z17 z18 z19 z22 z23 z24 z25 z26 z27 z28 z29 z30 z31 z32 z33 z36 z37 z38 z39 z40 z41 z42 z43 z44 z45 z46 z47 z48 z55 z56 z59 z60 z61 0 n3 n4 n5 n6 n7 n8 n9 (nI cd) n21 n34 n35 n49 n50 n51 n52 n53 n54 n57 n58 n62 n63 n g hn) ⟨by decide, by decide⟩ ⟨by decide, by decide⟩ hl.1 rfl 0 rfl rfl rfl (Nat.le_of_ble_eq_true rfl) [0, 1] [2, 3, 4, 5, 6, 7, 8, 9, 10, 11, 12, 13, 14, 15, 16, 17] rfl rfl rfl rfl (by decide) dX12_years_13 (fun r w1 H locs hq hw => ?_)
  obtain ⟨rfl, rfl⟩ := hq
  have hw : kW γ A ((mWa γ z10 z11 z12 z13 z14 z15 z16 z17 z18 z19 z22 z23 a) ++ [(z36, .inl (γ.2.1 0, 6, .inl (upd li 5 0))), (z37, .inl (γ.2.1 0, 240, .inl lw)), (z38, .inl (γ.2.1 0, 240, .inl la)), (z39, .inl (γ.2.1 0, 240, .inl lb))] ++ (mWz γ z z2 z10 z11 z12 z13 z14 z15 z16 z17 z18 z19 z22 z23 z24 z25 z26 z27 z28 z29 z30 z31 z32 z33 z36 z37 z38 z39 z40 z41 z42 z43 z44 z45 z46 z47 z48 z55 z56 z59 z60 z61 0 0 n49 n50 n51 n52 n53 n54 n57 n58 n62 n63 g n (n9, 0, n34, n35, n21, cd))) s H locs := hw
  refine W.eq (g2 := F0 m 16 ls []) rfl ?_
  exact lp_m_ryl z z2 z10 z11 z12 z13 z14 z15 z16 z17 z18 z19 z22 z23 z24 z25 z26 z27 z28 z29 z30 z31 z32 z33 z36 z37 z38 z39 z40 z41 z42 z43 z44 z45 z46 z47 z48 z55 z56 z59 z60 z61 0 0 n49 n50 n51 n52 n53 n54 n57 n58 n62 n63 n g a hn hM0 hC hr hlocks 1001 (n9, 0, n34, n35, n21, cd) (upd li 5 0) lw la lb res hres (show 0 ≤ (0 : Int32).toInt ∧ (0 : Int32).toInt ≤ 40 by decide) _ _ (kW.sub hw [16, 17, 0, 1, 2, 3, 4, 5, 6, 7, 8, 9, 10, 11, 12, 13, 14, 15] rfl rfl) _ (lv_sub hl [0] rfl)


theorem dX5_readYears_0 : decode cX5_readYears 0 = .ok (.aload_n 0, 1) := by decide +kernel
theorem dX5_readYears_1 : decode cX5_readYears 1 = .ok (.aload_n 1, 1) := by decide +kernel
theorem dX5_readYears_2 : decode cX5_readYears 2 = .ok (.invokevirtual 28, 3) := by decide +kernel
theorem dX5_readYears_5 : decode cX5_readYears 5 = .ok (.aload_n 0, 1) := by decide +kernel
theorem dX5_readYears_6 : decode cX5_readYears 6 = .ok (.iconst 0, 1) := by decide +kernel
theorem dX5_readYears_7 : decode cX5_readYears 7 = .ok (.putfield 95, 3) := by decide +kernel
theorem dX5_readYears_10 : decode cX5_readYears 10 = .ok (.iconst 0, 1) := by decide +kernel
theorem dX5_readYears_11 : decode cX5_readYears 11 = .ok (.istore_n 3, 1) := by decide +kernel
theorem dX5_readYears_12 : decode cX5_readYears 12 = .ok (.iload_n 3, 1) := by decide +kernel
theorem dX5_readYears_13 : decode cX5_readYears 13 = .ok (.sipush 1000, 3) := by decide +kernel
theorem dX5_readYears_16 : decode cX5_readYears 16 = .ok (.if_icmp .ge 20, 3) := by decide +kernel
theorem dX5_readYears_19 : decode cX5_readYears 19 = .ok (.aload_n 0, 1) := by decide +kernel
theorem dX5_readYears_20 : decode cX5_readYears 20 = .ok (.invokevirtual 32, 3) := by decide +kernel
theorem dX5_readYears_23 : decode cX5_readYears 23 = .ok (.ifCond .eq 13, 3) := by decide +kernel
theorem dX5_readYears_26 : decode cX5_readYears 26 = .ok (.aload_n 0, 1) := by decide +kernel
theorem dX5_readYears_27 : decode cX5_readYears 27 = .ok (.invokevirtual 98, 3) := by decide +kernel
theorem dX5_readYears_30 : decode cX5_readYears 30 = .ok (.iinc 3 1, 3) := by decide +kernel
theorem dX5_readYears_33 : decode cX5_readYears 33 = .ok (.goto (-21), 3) := by decide +kernel
theorem dX5_readYears_36 : decode cX5_readYears 36 = .ok (.aload_n 0, 1) := by decide +kernel
theorem dX5_readYears_37 : decode cX5_readYears 37 = .ok (.getfield 15, 3) := by decide +kernel
theorem dX5_readYears_40 : decode cX5_readYears 40 = .ok (.invokevirtual 88, 3) := by decide +kernel
theorem dX5_readYears_43 : decode cX5_readYears 43 = .ok (.aload_n 0, 1) := by decide +kernel
theorem dX5_readYears_44 : decode cX5_readYears 44 = .ok (.getfield 91, 3) := by decide +kernel
theorem dX5_readYears_47 : decode cX5_readYears 47 = .ok (.ifCond .ne 28, 3) := by decide +kernel
theorem dX5_readYears_50 : decode cX5_readYears 50 = .ok (.aload_n 0, 1) := by decide +kernel
theorem dX5_readYears_51 : decode cX5_readYears 51 = .ok (.getfield 9, 3) := by decide +kernel
theorem dX5_readYears_54 : decode cX5_readYears 54 = .ok (.iconst 0, 1) := by decide +kernel
theorem dX5_readYears_55 : decode cX5_readYears 55 = .ok (.aload_n 2, 1) := by decide +kernel
theorem dX5_readYears_56 : decode cX5_readYears 56 = .ok (.getfield 101, 3) := by decide +kernel
theorem dX5_readYears_59 : decode cX5_readYears 59 = .ok (.iconst 0, 1) := by decide +kernel
theorem dX5_readYears_60 : decode cX5_readYears 60 = .ok (.aload_n 0, 1) := by decide +kernel
theorem dX5_readYears_61 : decode cX5_readYears 61 = .ok (.getfield 95, 3) := by decide +kernel
theorem dX5_readYears_64 : decode cX5_readYears 64 = .ok (.invokestatic 106, 3) := by decide +kernel
theorem dX5_readYears_67 : decode cX5_readYears 67 = .ok (.aload_n 2, 1) := by decide +kernel
theorem dX5_readYears_68 : decode cX5_readYears 68 = .ok (.aload_n 0, 1) := by decide +kernel
theorem dX5_readYears_69 : decode cX5_readYears 69 = .ok (.getfield 95, 3) := by decide +kernel
theorem dX5_readYears_72 : decode cX5_readYears 72 = .ok (.putfield 112, 3) := by decide +kernel
theorem dX5_readYears_75 : decode cX5_readYears 75 = .ok (.aload_n 0, 1) := by decide +kernel
theorem dX5_readYears_76 : decode cX5_readYears 76 = .ok (.getfield 91, 3) := by decide +kernel
theorem dX5_readYears_79 : decode cX5_readYears 79 = .ok (.ireturn, 1) := by decide +kernel
theorem dX11_years_0 : decode cX11_years 0 = .ok (.aload_n 0, 1) := by decide +kernel
theorem dX11_years_1 : decode cX11_years 1 = .ok (.getfield 77, 3) := by decide +kernel
theorem dX11_years_4 : decode cX11_years 4 = .ok (.aload_n 0, 1) := by decide +kernel
theorem dX11_years_5 : decode cX11_years 5 = .ok (.getfield 65, 3) := by decide +kernel
theorem dX11_years_8 : decode cX11_years 8 = .ok (.aload_n 0, 1) := by decide +kernel
theorem dX11_years_9 : decode cX11_years 9 = .ok (.getfield 26, 3) := by decide +kernel
theorem dX11_years_12 : decode cX11_years 12 = .ok (.invokevirtual 96, 3) := by decide +kernel
theorem dX11_years_15 : decode cX11_years 15 = .ok (.ireturn, 1) := by decide +kernel
def F_ryl (f : Nat → Int32) (n : Nat) (a : aAS) (l3 : Int32) (yy : Nat → Int32) : Nat → rRS → Nat → (Nat → Int32) → Int32 × rRS × Nat × (Nat → Int32) × Int32 × (Nat → Int32)
  | 0, rs, mm, ln => if (rs.1) = 0 then ((rs.1), rs, mm, ln, (nI mm), (va_cpy ln yy (0 : Int32).toNatClampNeg (0 : Int32).toNatClampNeg (nI mm : Int32).toNatClampNeg)) else ((rs.1), rs, mm, ln, l3, yy)
  | k + 1, rs, mm, ln => if (F_goesOn f n rs) = 0 then (if (rs.1) = 0 then ((rs.1), rs, mm, ln, (nI mm), (va_cpy ln yy (0 : Int32).toNatClampNeg (0 : Int32).toNatClampNeg (nI mm : Int32).toNatClampNeg)) else ((rs.1), rs, mm, ln, l3, yy)) else (F_ryl f n a l3 yy k ((F_readLine f n rs a mm ln).1) ((F_readLine f n rs a mm ln).2.1) ((F_readLine f n rs a mm ln).2.2))
theorem F_ryl_z {f : Nat → Int32} {n : Nat} {a : aAS} {l3 : Int32} {yy : Nat → Int32} {rs : rRS} {mm : Nat} {ln : (Nat → Int32)} : (F_ryl f n a l3 yy 0 rs mm ln) = (if (rs.1) = 0 then ((rs.1), rs, mm, ln, (nI mm), (va_cpy ln yy (0 : Int32).toNatClampNeg (0 : Int32).toNatClampNeg (nI mm : Int32).toNatClampNeg)) else ((rs.1), rs, mm, ln, l3, yy)) := rfl
theorem F_ryl_s {f : Nat → Int32} {n : Nat} {a : aAS} {l3 : Int32} {yy : Nat → Int32} {rs : rRS} {mm : Nat} {ln : (Nat → Int32)} {k : Nat} : (F_ryl f n a l3 yy (k + 1) rs mm ln) = (if (F_goesOn f n rs) = 0 then (if (rs.1) = 0 then ((rs.1), rs, mm, ln, (nI mm), (va_cpy ln yy (0 : Int32).toNatClampNeg (0 : Int32).toNatClampNeg (nI mm : Int32).toNatClampNeg)) else ((rs.1), rs, mm, ln, l3, yy)) else (F_ryl f n a l3 yy k ((F_readLine f n rs a mm ln).1) ((F_readLine f n rs a mm ln).2.1) ((F_readLine f n rs a mm ln).2.2))) := rfl
set_option maxHeartbeats 4000000 in
set_option maxRecDepth 100000 in
theorem lp_ryl {γ : kΓ} {l : Launch} {p : Program} {e : Env} {s : State} {m : MethodId} {below : List Frame} {meth : Method} {c : Code} {A : Nat → Prop} (rr : Nat) (rl : Nat) (ab : Nat) (h : Nat) (hg : Nat) (n : Nat) (f : Nat → Int32) (a0 : Nat) (a1 : Nat) (a2 : Nat) (a3 : Nat) (a4 : Nat) (a5 : Nat) (a6 : Nat) (a7 : Nat) (a : aAS) (pg : Nat) (ps : Nat) (py : Nat) (pq : Nat) (l3 : Int32) (l4 : Int32) (l5 : Int32) (yy : Nat → Int32) (hn : n ≤ 1000) (hok : ∀ k, k < n → kok (f k) = true) (hA : aOK a) (hC : kC γ p s m [.ref rr, .ref ab, .ref pg].toArray c cX5_readYears 4 RX5 A) (hr : meth.sig.returnType = (some .int)) (hlocks : meth.locks = false) : ∀ (k i : Nat) (rs : rRS) (mm : Nat) (ln : (Nat → Int32)), i + k = 1000 → (mm ≤ 40) → ∀ (H : Heap) (locs : List Loc), kW γ A ([(rr, .inr (5, [.ref h, .ref rl, .ref ab, .int (nI mm), .int (rs.1)]))] ++ (tWd γ h hg n f (rs.2.1) (rs.2.2.1) (rs.2.2.2)) ++ [(rl, .inl (γ.2.1 0, 40, .inl ln))] ++ (aWd γ ab a0 a1 a2 a3 a4 a5 a6 a7 a) ++ [(pg, .inr (3, [.ref ps, .ref py, .ref pq, .int l3, .int l4, .int l5])), (py, .inl (γ.2.1 0, 40, .inl yy))]) s H locs → ∀ ls : Array Slot, lv_has ls 4 [(3, .int (nI i)), (0, .ref rr), (1, .ref ab), (2, .ref pg)] → W p l e ({ frames := 4, cells := 0, slots := 0, locals := 105 } : Room) s m [.ref rr, .ref ab, .ref pg].toArray below meth c H locs 0 0 (MQ below (kQ γ A (fun r w1 => r = some (.int ((F_ryl f n a l3 yy k rs mm ln).1)) ∧ w1 = ([(rr, .inr (5, [.ref h, .ref rl, .ref ab, .int (nI ((F_ryl f n a l3 yy k rs mm ln).2.2.1)), .int (((F_ryl f n a l3 yy k rs mm ln).2.1).1)])), (h, .inr (8, [.ref hg, .int 0, .int (nI (ts f n (((F_ryl f n a l3 yy k rs mm ln).2.1).2.1))), .int (nI (te f n (((F_ryl f n a l3 yy k rs mm ln).2.1).2.1))), .int (tk f n (((F_ryl f n a l3 yy k rs mm ln).2.1).2.1)), .int (((F_ryl f n a l3 yy k rs mm ln).2.1).2.2.1), .long (((F_ryl f n a l3 yy k rs mm ln).2.1).2.2.2), .ref (γ.2.2.2.2 (tw f n (((F_ryl f n a l3 yy k rs mm ln).2.1).2.1)))])), (hg, .inl (γ.2.1 2, 1000, .inl f)), (rl, .inl (γ.2.1 0, 40, .inl ((F_ryl f n a l3 yy k rs mm ln).2.2.2.1)))] ++ (aWd γ ab a0 a1 a2 a3 a4 a5 a6 a7 a) ++ [(pg, .inr (3, [.ref ps, .ref py, .ref pq, .int ((F_ryl f n a l3 yy k rs mm ln).2.2.2.2.1), .int l4, .int l5])), (py, .inl (γ.2.1 0, 40, .inl ((F_ryl f n a l3 yy k rs mm ln).2.2.2.2.2)))]))) [.ref rr, .ref ab, .ref pg].toArray s 0 0 A) (F0 m 12 ls []) := by
  have hx := hC.1
  have hb := hC.2.1
  intro k
  induction k with
  | zero =>
    intro i rs mm ln hk hmm H locs hw ls hl
    have hT : (a.2.2.2.2.2.2.2.1) ≤ 8 := hA.1
    have hQ : (a.2.2.2.2.2.2.2.2.1) ≤ 5 := hA.2.1
    have hE9 : (a.2.2.2.2.2.2.2.2.2.2.2.2.2.1) ≤ 1000 := hA.2.2
    refine lv_iload_n hx hb dX5_readYears_12 rfl (lv_at hl 0 rfl) ?_
    refine lv_sipush (v := 1000) hx hb dX5_readYears_13 (by decide) ?_
    refine lv_icmp_ge (tgt := 36) hx hb dX5_readYears_16 (by decide) (fun _ => ?_) (fun h => absurd (nI_le (a := 1000) (by omega) (by omega)) h)
    refine lv_aload_n hx hb dX5_readYears_36 rfl (lv_at hl 1 rfl) ?_
    refine fg_RX5_15 hC hw 0 rfl rfl dX5_readYears_37 ?_
    refine k_V (wr := ([(rr, .inr (5, [.ref h, .ref rl, .ref ab, .int (nI mm), .int (rs.1)])), (hg, .inl (γ.2.1 2, 1000, .inl f)), (rl, .inl (γ.2.1 0, 40, .inl ln))] ++ (aWd γ ab a0 a1 a2 a3 a4 a5 a6 a7 a) ++ [(pg, .inr (3, [.ref ps, .ref py, .ref pq, .int l3, .int l4, .int l5])), (py, .inl (γ.2.1 0, 40, .inl yy))])) 0 gw_643 gw_644 gw_645 gw_2 gw_646 hd_X8_empty hC hw (c_empty γ l h hg (nI n) (nI (ts f n (rs.2.1))) (nI (te f n (rs.2.1))) (tk f n (rs.2.1)) (rs.2.2.1) (rs.2.2.2) (γ.2.2.2.2 (tw f n (rs.2.1)))) ⟨by decide, by decide⟩ ⟨by decide, by decide⟩ hl.1 rfl 1 rfl rfl rfl (Nat.le_of_ble_eq_true rfl) [1] [0, 2, 3, 4, 5, 6, 7, 8, 9, 10, 11, 12, 13] rfl rfl rfl rfl (by decide) dX5_readYears_40 (fun r w1 H locs hq hw => ?_)
    obtain ⟨rfl, rfl⟩ := hq
    have hw : kW γ A ([(rr, .inr (5, [.ref h, .ref rl, .ref ab, .int (nI mm), .int (rs.1)])), (hg, .inl (γ.2.1 2, 1000, .inl f)), (rl, .inl (γ.2.1 0, 40, .inl ln))] ++ (aWd γ ab a0 a1 a2 a3 a4 a5 a6 a7 a) ++ [(pg, .inr (3, [.ref ps, .ref py, .ref pq, .int l3, .int l4, .int l5])), (py, .inl (γ.2.1 0, 40, .inl yy)), (h, .inr (8, [.ref hg, .int 0, .int (nI (ts f n (rs.2.1))), .int (nI (te f n (rs.2.1))), .int (tk f n (rs.2.1)), .int (rs.2.2.1), .long (rs.2.2.2), .ref (γ.2.2.2.2 (tw f n (rs.2.1)))]))]) s H locs := hw
    refine W.eq (g2 := F0 m 43 ls []) rfl ?_
    refine lv_aload_n hx hb dX5_readYears_43 rfl (lv_at hl 1 rfl) ?_
    refine fg_RX5_91 hC hw 0 rfl rfl dX5_readYears_44 ?_
    refine lv_if_ne (tgt := 75) hx hb dX5_readYears_47 (by decide) (fun c_276 => ?_) (fun c_276 => ?_)
    · refine lv_aload_n hx hb dX5_readYears_75 rfl (lv_at hl 1 rfl) ?_
      refine fg_RX5_91 hC hw 0 rfl rfl dX5_readYears_76 ?_
      have hE : (F_ryl f n a l3 yy 0 rs mm ln) = ((rs.1), rs, mm, ln, l3, yy) := by rw [F_ryl_z, if_neg c_276]
      have hw : kW γ A ([(rr, .inr (5, [.ref h, .ref rl, .ref ab, .int (nI ((F_ryl f n a l3 yy 0 rs mm ln).2.2.1)), .int (((F_ryl f n a l3 yy 0 rs mm ln).2.1).1)])), (hg, .inl (γ.2.1 2, 1000, .inl f)), (rl, .inl (γ.2.1 0, 40, .inl ((F_ryl f n a l3 yy 0 rs mm ln).2.2.2.1)))] ++ (aWd γ ab a0 a1 a2 a3 a4 a5 a6 a7 a) ++ [(pg, .inr (3, [.ref ps, .ref py, .ref pq, .int ((F_ryl f n a l3 yy 0 rs mm ln).2.2.2.2.1), .int l4, .int l5])), (py, .inl (γ.2.1 0, 40, .inl ((F_ryl f n a l3 yy 0 rs mm ln).2.2.2.2.2))), (h, .inr (8, [.ref hg, .int 0, .int (nI (ts f n (((F_ryl f n a l3 yy 0 rs mm ln).2.1).2.1))), .int (nI (te f n (((F_ryl f n a l3 yy 0 rs mm ln).2.1).2.1))), .int (tk f n (((F_ryl f n a l3 yy 0 rs mm ln).2.1).2.1)), .int (((F_ryl f n a l3 yy 0 rs mm ln).2.1).2.2.1), .long (((F_ryl f n a l3 yy 0 rs mm ln).2.1).2.2.2), .ref (γ.2.2.2.2 (tw f n (((F_ryl f n a l3 yy 0 rs mm ln).2.1).2.1)))]))]) s H locs := by first | (rw [hE]; exact hw) | exact hw
      exact k_iret hC hr hlocks hw [0, 13, 1, 2, 3, 4, 5, 6, 7, 8, 9, 10, 11, 12] rfl rfl ⟨by rw [hE], rfl⟩ (by decide) (by decide) dX5_readYears_79
    · refine lv_aload_n hx hb dX5_readYears_50 rfl (lv_at hl 1 rfl) ?_
      refine fg_RX5_9 hC hw 0 rfl rfl dX5_readYears_51 ?_
      refine lv_iconst (v := 0) hx hb dX5_readYears_54 (by decide) ?_
      refine lv_aload_n hx hb dX5_readYears_55 rfl (lv_at hl 3 rfl) ?_
      refine fg_RX5_101 hC hw 11 rfl rfl dX5_readYears_56 ?_
      refine lv_iconst (v := 0) hx hb dX5_readYears_59 (by decide) ?_
      refine lv_aload_n hx hb dX5_readYears_60 rfl (lv_at hl 1 rfl) ?_
      refine fg_RX5_95 hC hw 0 rfl rfl dX5_readYears_61 ?_
      refine k_copyi hC hw gw_690 hl.1 2 12 rfl rfl (by decide) (by decide) (nI_n0 (by omega)) (by rw [nI_clamp (by omega)]; show 0 + mm ≤ 40; omega) (by rw [nI_clamp (by omega)]; show 0 + mm ≤ 40; omega) (by decide) (by decide) dX5_readYears_64 (fun H locs hw => ?_)
      have hw : kW γ A ([(rr, .inr (5, [.ref h, .ref rl, .ref ab, .int (nI mm), .int (rs.1)])), (hg, .inl (γ.2.1 2, 1000, .inl f)), (rl, .inl (γ.2.1 0, 40, .inl ln))] ++ (aWd γ ab a0 a1 a2 a3 a4 a5 a6 a7 a) ++ [(pg, .inr (3, [.ref ps, .ref py, .ref pq, .int l3, .int l4, .int l5])), (py, .inl (γ.2.1 0, 40, .inl (va_cpy ln yy (0 : Int32).toNatClampNeg (0 : Int32).toNatClampNeg (nI mm : Int32).toNatClampNeg))), (h, .inr (8, [.ref hg, .int 0, .int (nI (ts f n (rs.2.1))), .int (nI (te f n (rs.2.1))), .int (tk f n (rs.2.1)), .int (rs.2.2.1), .long (rs.2.2.2), .ref (γ.2.2.2.2 (tw f n (rs.2.1)))]))]) s H locs := hw
      refine W.eq (g2 := F0 m 67 ls []) rfl ?_
      refine lv_aload_n hx hb dX5_readYears_67 rfl (lv_at hl 3 rfl) ?_
      refine lv_aload_n hx hb dX5_readYears_68 rfl (lv_at hl 1 rfl) ?_
      refine fg_RX5_95 hC hw 0 rfl rfl dX5_readYears_69 ?_
      refine fs_RX5_112 hC hw 11 rfl rfl rfl (Nat.le_of_ble_eq_true rfl) dX5_readYears_72 (fun H locs hw => ?_)
      have hw : kW γ A ([(rr, .inr (5, [.ref h, .ref rl, .ref ab, .int (nI mm), .int (rs.1)])), (hg, .inl (γ.2.1 2, 1000, .inl f)), (rl, .inl (γ.2.1 0, 40, .inl ln))] ++ (aWd γ ab a0 a1 a2 a3 a4 a5 a6 a7 a) ++ [(pg, .inr (3, [.ref ps, .ref py, .ref pq, .int (nI mm), .int l4, .int l5])), (py, .inl (γ.2.1 0, 40, .inl (va_cpy ln yy (0 : Int32).toNatClampNeg (0 : Int32).toNatClampNeg (nI mm : Int32).toNatClampNeg))), (h, .inr (8, [.ref hg, .int 0, .int (nI (ts f n (rs.2.1))), .int (nI (te f n (rs.2.1))), .int (tk f n (rs.2.1)), .int (rs.2.2.1), .long (rs.2.2.2), .ref (γ.2.2.2.2 (tw f n (rs.2.1)))]))]) s H locs := hw
      refine lv_aload_n hx hb dX5_readYears_75 rfl (lv_at hl 1 rfl) ?_
      refine fg_RX5_91 hC hw 0 rfl rfl dX5_readYears_76 ?_
      have hE : (F_ryl f n a l3 yy 0 rs mm ln) = ((rs.1), rs, mm, ln, (nI mm), (va_cpy ln yy (0 : Int32).toNatClampNeg (0 : Int32).toNatClampNeg (nI mm : Int32).toNatClampNeg)) := by rw [F_ryl_z, if_pos c_276]
      have hw : kW γ A ([(rr, .inr (5, [.ref h, .ref rl, .ref ab, .int (nI ((F_ryl f n a l3 yy 0 rs mm ln).2.2.1)), .int (((F_ryl f n a l3 yy 0 rs mm ln).2.1).1)])), (hg, .inl (γ.2.1 2, 1000, .inl f)), (rl, .inl (γ.2.1 0, 40, .inl ((F_ryl f n a l3 yy 0 rs mm ln).2.2.2.1)))] ++ (aWd γ ab a0 a1 a2 a3 a4 a5 a6 a7 a) ++ [(pg, .inr (3, [.ref ps, .ref py, .ref pq, .int ((F_ryl f n a l3 yy 0 rs mm ln).2.2.2.2.1), .int l4, .int l5])), (py, .inl (γ.2.1 0, 40, .inl ((F_ryl f n a l3 yy 0 rs mm ln).2.2.2.2.2))), (h, .inr (8, [.ref hg, .int 0, .int (nI (ts f n (((F_ryl f n a l3 yy 0 rs mm ln).2.1).2.1))), .int (nI (te f n (((F_ryl f n a l3 yy 0 rs mm ln).2.1).2.1))), .int (tk f n (((F_ryl f n a l3 yy 0 rs mm ln).2.1).2.1)), .int (((F_ryl f n a l3 yy 0 rs mm ln).2.1).2.2.1), .long (((F_ryl f n a l3 yy 0 rs mm ln).2.1).2.2.2), .ref (γ.2.2.2.2 (tw f n (((F_ryl f n a l3 yy 0 rs mm ln).2.1).2.1)))]))]) s H locs := by first | (rw [hE]; exact hw) | exact hw
      exact k_iret hC hr hlocks hw [0, 13, 1, 2, 3, 4, 5, 6, 7, 8, 9, 10, 11, 12] rfl rfl ⟨by rw [hE], rfl⟩ (by decide) (by decide) dX5_readYears_79
  | succ k ih =>
    intro i rs mm ln hk hmm H locs hw ls hl
    have hT : (a.2.2.2.2.2.2.2.1) ≤ 8 := hA.1
    have hQ : (a.2.2.2.2.2.2.2.2.1) ≤ 5 := hA.2.1
    have hE9 : (a.2.2.2.2.2.2.2.2.2.2.2.2.2.1) ≤ 1000 := hA.2.2
    refine lv_iload_n hx hb dX5_readYears_12 rfl (lv_at hl 0 rfl) ?_
    refine lv_sipush (v := 1000) hx hb dX5_readYears_13 (by decide) ?_
    refine lv_icmp_ge (tgt := 36) hx hb dX5_readYears_16 (by decide) (fun h => absurd h (nI_ge (b := 1000) (by omega) (by decide))) (fun _ => ?_)
    refine lv_aload_n hx hb dX5_readYears_19 rfl (lv_at hl 1 rfl) ?_
    refine k_V (wr := ([(rl, .inl (γ.2.1 0, 40, .inl ln))] ++ (aWd γ ab a0 a1 a2 a3 a4 a5 a6 a7 a) ++ [(pg, .inr (3, [.ref ps, .ref py, .ref pq, .int l3, .int l4, .int l5])), (py, .inl (γ.2.1 0, 40, .inl yy))])) 0 gw_483 gw_485 gp_3 gw_14 gw_486 hd_X5_goesOn hC hw (c_goesOn γ l rr rl ab (nI mm) h hg n rs f hn hok) ⟨by decide, by decide⟩ ⟨by decide, by decide⟩ hl.1 rfl 0 rfl rfl rfl (Nat.le_of_ble_eq_true rfl) [0, 1, 2] [3, 4, 5, 6, 7, 8, 9, 10, 11, 12, 13] rfl rfl rfl rfl (by decide) dX5_readYears_20 (fun r w1 H locs hq hw => ?_)
    obtain ⟨rfl, rfl⟩ := hq
    have hw : kW γ A ([(rl, .inl (γ.2.1 0, 40, .inl ln))] ++ (aWd γ ab a0 a1 a2 a3 a4 a5 a6 a7 a) ++ [(pg, .inr (3, [.ref ps, .ref py, .ref pq, .int l3, .int l4, .int l5])), (py, .inl (γ.2.1 0, 40, .inl yy)), (rr, .inr (5, [.ref h, .ref rl, .ref ab, .int (nI mm), .int (rs.1)]))] ++ (tWd γ h hg n f (rs.2.1) (rs.2.2.1) (rs.2.2.2))) s H locs := hw
    refine W.eq (g2 := F0 m 23 ls [.int (F_goesOn f n rs)]) rfl ?_
    refine lv_if_eq (tgt := 36) hx hb dX5_readYears_23 (by decide) (fun c_277 => ?_) (fun c_277 => ?_)
    · refine lv_aload_n hx hb dX5_readYears_36 rfl (lv_at hl 1 rfl) ?_
      refine fg_RX5_15 hC hw 11 rfl rfl dX5_readYears_37 ?_
      refine k_V (wr := ([(rl, .inl (γ.2.1 0, 40, .inl ln))] ++ (aWd γ ab a0 a1 a2 a3 a4 a5 a6 a7 a) ++ [(pg, .inr (3, [.ref ps, .ref py, .ref pq, .int l3, .int l4, .int l5])), (py, .inl (γ.2.1 0, 40, .inl yy)), (rr, .inr (5, [.ref h, .ref rl, .ref ab, .int (nI mm), .int (rs.1)])), (hg, .inl (γ.2.1 2, 1000, .inl f))])) 0 gw_643 gw_644 gw_645 gw_2 gw_646 hd_X8_empty hC hw (c_empty γ l h hg (nI n) (nI (ts f n (rs.2.1))) (nI (te f n (rs.2.1))) (tk f n (rs.2.1)) (rs.2.2.1) (rs.2.2.2) (γ.2.2.2.2 (tw f n (rs.2.1)))) ⟨by decide, by decide⟩ ⟨by decide, by decide⟩ hl.1 rfl 12 rfl rfl rfl (Nat.le_of_ble_eq_true rfl) [12] [0, 1, 2, 3, 4, 5, 6, 7, 8, 9, 10, 11, 13] rfl rfl rfl rfl (by decide) dX5_readYears_40 (fun r w1 H locs hq hw => ?_)
      obtain ⟨rfl, rfl⟩ := hq
      have hw : kW γ A ([(rl, .inl (γ.2.1 0, 40, .inl ln))] ++ (aWd γ ab a0 a1 a2 a3 a4 a5 a6 a7 a) ++ [(pg, .inr (3, [.ref ps, .ref py, .ref pq, .int l3, .int l4, .int l5])), (py, .inl (γ.2.1 0, 40, .inl yy)), (rr, .inr (5, [.ref h, .ref rl, .ref ab, .int (nI mm), .int (rs.1)])), (hg, .inl (γ.2.1 2, 1000, .inl f)), (h, .inr (8, [.ref hg, .int 0, .int (nI (ts f n (rs.2.1))), .int (nI (te f n (rs.2.1))), .int (tk f n (rs.2.1)), .int (rs.2.2.1), .long (rs.2.2.2), .ref (γ.2.2.2.2 (tw f n (rs.2.1)))]))]) s H locs := hw
      refine W.eq (g2 := F0 m 43 ls []) rfl ?_
      refine lv_aload_n hx hb dX5_readYears_43 rfl (lv_at hl 1 rfl) ?_
      refine fg_RX5_91 hC hw 11 rfl rfl dX5_readYears_44 ?_
      refine lv_if_ne (tgt := 75) hx hb dX5_readYears_47 (by decide) (fun c_278 => ?_) (fun c_278 => ?_)
      · refine lv_aload_n hx hb dX5_readYears_75 rfl (lv_at hl 1 rfl) ?_
        refine fg_RX5_91 hC hw 11 rfl rfl dX5_readYears_76 ?_
        have hE : (F_ryl f n a l3 yy (k + 1) rs mm ln) = ((rs.1), rs, mm, ln, l3, yy) := by rw [F_ryl_s, if_pos c_277, if_neg c_278]
        have hw : kW γ A ([(rl, .inl (γ.2.1 0, 40, .inl ((F_ryl f n a l3 yy (k + 1) rs mm ln).2.2.2.1)))] ++ (aWd γ ab a0 a1 a2 a3 a4 a5 a6 a7 a) ++ [(pg, .inr (3, [.ref ps, .ref py, .ref pq, .int ((F_ryl f n a l3 yy (k + 1) rs mm ln).2.2.2.2.1), .int l4, .int l5])), (py, .inl (γ.2.1 0, 40, .inl ((F_ryl f n a l3 yy (k + 1) rs mm ln).2.2.2.2.2))), (rr, .inr (5, [.ref h, .ref rl, .ref ab, .int (nI ((F_ryl f n a l3 yy (k + 1) rs mm ln).2.2.1)), .int (((F_ryl f n a l3 yy (k + 1) rs mm ln).2.1).1)])), (hg, .inl (γ.2.1 2, 1000, .inl f)), (h, .inr (8, [.ref hg, .int 0, .int (nI (ts f n (((F_ryl f n a l3 yy (k + 1) rs mm ln).2.1).2.1))), .int (nI (te f n (((F_ryl f n a l3 yy (k + 1) rs mm ln).2.1).2.1))), .int (tk f n (((F_ryl f n a l3 yy (k + 1) rs mm ln).2.1).2.1)), .int (((F_ryl f n a l3 yy (k + 1) rs mm ln).2.1).2.2.1), .long (((F_ryl f n a l3 yy (k + 1) rs mm ln).2.1).2.2.2), .ref (γ.2.2.2.2 (tw f n (((F_ryl f n a l3 yy (k + 1) rs mm ln).2.1).2.1)))]))]) s H locs := by first | (rw [hE]; exact hw) | exact hw
        exact k_iret hC hr hlocks hw [11, 13, 12, 0, 1, 2, 3, 4, 5, 6, 7, 8, 9, 10] rfl rfl ⟨by rw [hE], rfl⟩ (by decide) (by decide) dX5_readYears_79
      · refine lv_aload_n hx hb dX5_readYears_50 rfl (lv_at hl 1 rfl) ?_
        refine fg_RX5_9 hC hw 11 rfl rfl dX5_readYears_51 ?_
        refine lv_iconst (v := 0) hx hb dX5_readYears_54 (by decide) ?_
        refine lv_aload_n hx hb dX5_readYears_55 rfl (lv_at hl 3 rfl) ?_
        refine fg_RX5_101 hC hw 9 rfl rfl dX5_readYears_56 ?_
        refine lv_iconst (v := 0) hx hb dX5_readYears_59 (by decide) ?_
        refine lv_aload_n hx hb dX5_readYears_60 rfl (lv_at hl 1 rfl) ?_
        refine fg_RX5_95 hC hw 11 rfl rfl dX5_readYears_61 ?_
        refine k_copyi hC hw gw_690 hl.1 0 10 rfl rfl (by decide) (by decide) (nI_n0 (by omega)) (by rw [nI_clamp (by omega)]; show 0 + mm ≤ 40; omega) (by rw [nI_clamp (by omega)]; show 0 + mm ≤ 40; omega) (by decide) (by decide) dX5_readYears_64 (fun H locs hw => ?_)
        have hw : kW γ A ([(rl, .inl (γ.2.1 0, 40, .inl ln))] ++ (aWd γ ab a0 a1 a2 a3 a4 a5 a6 a7 a) ++ [(pg, .inr (3, [.ref ps, .ref py, .ref pq, .int l3, .int l4, .int l5])), (py, .inl (γ.2.1 0, 40, .inl (va_cpy ln yy (0 : Int32).toNatClampNeg (0 : Int32).toNatClampNeg (nI mm : Int32).toNatClampNeg))), (rr, .inr (5, [.ref h, .ref rl, .ref ab, .int (nI mm), .int (rs.1)])), (hg, .inl (γ.2.1 2, 1000, .inl f)), (h, .inr (8, [.ref hg, .int 0, .int (nI (ts f n (rs.2.1))), .int (nI (te f n (rs.2.1))), .int (tk f n (rs.2.1)), .int (rs.2.2.1), .long (rs.2.2.2), .ref (γ.2.2.2.2 (tw f n (rs.2.1)))]))]) s H locs := hw
        refine W.eq (g2 := F0 m 67 ls []) rfl ?_
        refine lv_aload_n hx hb dX5_readYears_67 rfl (lv_at hl 3 rfl) ?_
        refine lv_aload_n hx hb dX5_readYears_68 rfl (lv_at hl 1 rfl) ?_
        refine fg_RX5_95 hC hw 11 rfl rfl dX5_readYears_69 ?_
        refine fs_RX5_112 hC hw 9 rfl rfl rfl (Nat.le_of_ble_eq_true rfl) dX5_readYears_72 (fun H locs hw => ?_)
        have hw : kW γ A ([(rl, .inl (γ.2.1 0, 40, .inl ln))] ++ (aWd γ ab a0 a1 a2 a3 a4 a5 a6 a7 a) ++ [(pg, .inr (3, [.ref ps, .ref py, .ref pq, .int (nI mm), .int l4, .int l5])), (py, .inl (γ.2.1 0, 40, .inl (va_cpy ln yy (0 : Int32).toNatClampNeg (0 : Int32).toNatClampNeg (nI mm : Int32).toNatClampNeg))), (rr, .inr (5, [.ref h, .ref rl, .ref ab, .int (nI mm), .int (rs.1)])), (hg, .inl (γ.2.1 2, 1000, .inl f)), (h, .inr (8, [.ref hg, .int 0, .int (nI (ts f n (rs.2.1))), .int (nI (te f n (rs.2.1))), .int (tk f n (rs.2.1)), .int (rs.2.2.1), .long (rs.2.2.2), .ref (γ.2.2.2.2 (tw f n (rs.2.1)))]))]) s H locs := hw
        refine lv_aload_n hx hb dX5_readYears_75 rfl (lv_at hl 1 rfl) ?_
        refine fg_RX5_91 hC hw 11 rfl rfl dX5_readYears_76 ?_
        have hE : (F_ryl f n a l3 yy (k + 1) rs mm ln) = ((rs.1), rs, mm, ln, (nI mm), (va_cpy ln yy (0 : Int32).toNatClampNeg (0 : Int32).toNatClampNeg (nI mm : Int32).toNatClampNeg)) := by rw [F_ryl_s, if_pos c_277, if_pos c_278]
        have hw : kW γ A ([(rl, .inl (γ.2.1 0, 40, .inl ((F_ryl f n a l3 yy (k + 1) rs mm ln).2.2.2.1)))] ++ (aWd γ ab a0 a1 a2 a3 a4 a5 a6 a7 a) ++ [(pg, .inr (3, [.ref ps, .ref py, .ref pq, .int ((F_ryl f n a l3 yy (k + 1) rs mm ln).2.2.2.2.1), .int l4, .int l5])), (py, .inl (γ.2.1 0, 40, .inl ((F_ryl f n a l3 yy (k + 1) rs mm ln).2.2.2.2.2))), (rr, .inr (5, [.ref h, .ref rl, .ref ab, .int (nI ((F_ryl f n a l3 yy (k + 1) rs mm ln).2.2.1)), .int (((F_ryl f n a l3 yy (k + 1) rs mm ln).2.1).1)])), (hg, .inl (γ.2.1 2, 1000, .inl f)), (h, .inr (8, [.ref hg, .int 0, .int (nI (ts f n (((F_ryl f n a l3 yy (k + 1) rs mm ln).2.1).2.1))), .int (nI (te f n (((F_ryl f n a l3 yy (k + 1) rs mm ln).2.1).2.1))), .int (tk f n (((F_ryl f n a l3 yy (k + 1) rs mm ln).2.1).2.1)), .int (((F_ryl f n a l3 yy (k + 1) rs mm ln).2.1).2.2.1), .long (((F_ryl f n a l3 yy (k + 1) rs mm ln).2.1).2.2.2), .ref (γ.2.2.2.2 (tw f n (((F_ryl f n a l3 yy (k + 1) rs mm ln).2.1).2.1)))]))]) s H locs := by first | (rw [hE]; exact hw) | exact hw
        exact k_iret hC hr hlocks hw [11, 13, 12, 0, 1, 2, 3, 4, 5, 6, 7, 8, 9, 10] rfl rfl ⟨by rw [hE], rfl⟩ (by decide) (by decide) dX5_readYears_79
    · refine lv_aload_n hx hb dX5_readYears_26 rfl (lv_at hl 1 rfl) ?_
      refine k_V (wr := [(pg, .inr (3, [.ref ps, .ref py, .ref pq, .int l3, .int l4, .int l5])), (py, .inl (γ.2.1 0, 40, .inl yy))]) 0 gw_668 gw_670 gp_22 gw_14 gw_671 hd_X5_readLine hC hw (c_readLine γ l rr rl ab h hg n rs f a0 a1 a2 a3 a4 a5 a6 a7 a mm ln hn hok hA hmm) ⟨by decide, by decide⟩ ⟨by decide, by decide⟩ hl.1 rfl 11 rfl rfl rfl (Nat.le_of_ble_eq_true rfl) [11, 12, 13, 0, 1, 2, 3, 4, 5, 6, 7, 8] [9, 10] rfl rfl rfl rfl (by decide) dX5_readYears_27 (fun r w1 H locs hq hw => ?_)
      obtain ⟨rfl, rfl⟩ := hq
      have hw : kW γ A ([(pg, .inr (3, [.ref ps, .ref py, .ref pq, .int l3, .int l4, .int l5])), (py, .inl (γ.2.1 0, 40, .inl yy)), (rr, .inr (5, [.ref h, .ref rl, .ref ab, .int (nI ((F_readLine f n rs a mm ln).2.1)), .int (((F_readLine f n rs a mm ln).1).1)]))] ++ (tWd γ h hg n f (((F_readLine f n rs a mm ln).1).2.1) (((F_readLine f n rs a mm ln).1).2.2.1) (((F_readLine f n rs a mm ln).1).2.2.2)) ++ [(rl, .inl (γ.2.1 0, 40, .inl ((F_readLine f n rs a mm ln).2.2)))] ++ (aWd γ ab a0 a1 a2 a3 a4 a5 a6 a7 a)) s H locs := hw
      refine W.eq (g2 := F0 m 30 ls []) rfl ?_
      refine lv_iinc (v := (nI (i + 1))) (lv' := [(3, .int (nI (i + 1))), (0, .ref rr), (1, .ref ab), (2, .ref pg)]) hx hb dX5_readYears_30 hl (k := 0) rfl (nI_1 i) (by decide) rfl (fun ls hl => ?_)
      refine lv_goto (tgt := 12) hx hb dX5_readYears_33 (by decide) ?_
      have hE : (F_ryl f n a l3 yy (k + 1) rs mm ln) = (F_ryl f n a l3 yy k ((F_readLine f n rs a mm ln).1) ((F_readLine f n rs a mm ln).2.1) ((F_readLine f n rs a mm ln).2.2)) := by rw [F_ryl_s, if_neg c_277]
      rw [hE]
      exact ih (i + 1) ((F_readLine f n rs a mm ln).1) ((F_readLine f n rs a mm ln).2.1) ((F_readLine f n rs a mm ln).2.2) (by omega) (ok_readLine hmm) _ _ (kW.sub hw [2, 3, 4, 5, 6, 7, 8, 9, 10, 11, 12, 13, 0, 1] rfl rfl) _ (lv_sub hl [0, 1, 2, 3] rfl)

def F_readYears (f : Nat → Int32) (n : Nat) (a : aAS) (t5 : Int32) (t6 : Int64) (ln : Nat → Int32) (l3 : Int32) (yy : Nat → Int32) : Int32 × rRS × Nat × (Nat → Int32) × Int32 × (Nat → Int32) :=
  (F_ryl f n a l3 yy 1000 (rs0 f n t5 t6) 0 ln)
set_option maxHeartbeats 4000000 in
set_option maxRecDepth 100000 in
theorem c_readYears (γ : kΓ) (l : Launch) (rr : Nat) (rl : Nat) (ab : Nat) (mn : Int32) (h : Nat) (hg : Nat) (n : Nat) (f : Nat → Int32) (a0 : Nat) (a1 : Nat) (a2 : Nat) (a3 : Nat) (a4 : Nat) (a5 : Nat) (a6 : Nat) (a7 : Nat) (a : aAS) (fa : Int32) (ab9 : Nat) (t2 : Int32) (tb : Int32) (t4 : Int32) (t5 : Int32) (t6 : Int64) (t7 : Nat) (ln : Nat → Int32) (pg : Nat) (ps : Nat) (py : Nat) (pq : Nat) (l3 : Int32) (l4 : Int32) (l5 : Int32) (yy : Nat → Int32) (hn : n ≤ 1000) (hok : ∀ k, k < n → kok (f k) = true) (hA : aOK a) : kM γ l yX5_readYears cX5_readYears 4 ((some .int)) ({ frames := 4, cells := 0, slots := 0, locals := 105 } : Room) [.ref rr, .ref ab, .ref pg] ([(rr, .inr (5, [.ref h, .ref rl, .ref ab9, .int mn, .int fa])), (h, .inr (8, [.ref hg, .int (nI n), .int t2, .int tb, .int t4, .int t5, .long t6, .ref t7])), (hg, .inl (γ.2.1 2, 1000, .inl f)), (rl, .inl (γ.2.1 0, 40, .inl ln))] ++ (aWd γ ab a0 a1 a2 a3 a4 a5 a6 a7 a) ++ [(pg, .inr (3, [.ref ps, .ref py, .ref pq, .int l3, .int l4, .int l5])), (py, .inl (γ.2.1 0, 40, .inl yy))]) (fun r w1 => r = some (.int ((F_readYears f n a t5 t6 ln l3 yy).1)) ∧ w1 = ([(rr, .inr (5, [.ref h, .ref rl, .ref ab, .int (nI ((F_readYears f n a t5 t6 ln l3 yy).2.2.1)), .int (((F_readYears f n a t5 t6 ln l3 yy).2.1).1)])), (h, .inr (8, [.ref hg, .int 0, .int (nI (ts f n (((F_readYears f n a t5 t6 ln l3 yy).2.1).2.1))), .int (nI (te f n (((F_readYears f n a t5 t6 ln l3 yy).2.1).2.1))), .int (tk f n (((F_readYears f n a t5 t6 ln l3 yy).2.1).2.1)), .int (((F_readYears f n a t5 t6 ln l3 yy).2.1).2.2.1), .long (((F_readYears f n a t5 t6 ln l3 yy).2.1).2.2.2), .ref (γ.2.2.2.2 (tw f n (((F_readYears f n a t5 t6 ln l3 yy).2.1).2.1)))])), (hg, .inl (γ.2.1 2, 1000, .inl f)), (rl, .inl (γ.2.1 0, 40, .inl ((F_readYears f n a t5 t6 ln l3 yy).2.2.2.1)))] ++ (aWd γ ab a0 a1 a2 a3 a4 a5 a6 a7 a) ++ [(pg, .inr (3, [.ref ps, .ref py, .ref pq, .int ((F_readYears f n a t5 t6 ln l3 yy).2.2.2.2.1), .int l4, .int l5])), (py, .inl (γ.2.1 0, 40, .inl ((F_readYears f n a t5 t6 ln l3 yy).2.2.2.2.2)))])) := by
  refine k_ofW (by decide) (Nat.le_of_ble_eq_true rfl) ?_
  intro p9 e s m below meth c A ls hC hr hlocks hname hw hl
  have hx := hC.1
  have hb := hC.2.1
  have hl : lv_has ls 4 [(0, .ref rr), (1, .ref ab), (2, .ref pg)] := hl
  have hT : (a.2.2.2.2.2.2.2.1) ≤ 8 := hA.1
  have hQ : (a.2.2.2.2.2.2.2.2.1) ≤ 5 := hA.2.1
  have hE9 : (a.2.2.2.2.2.2.2.2.2.2.2.2.2.1) ≤ 1000 := hA.2.2
  refine lv_aload_n hx hb dX5_readYears_0 rfl (lv_at hl 0 rfl) ?_
  refine lv_aload_n hx hb dX5_readYears_1 rfl (lv_at hl 1 rfl) ?_
  refine k_V (wr := ([(rl, .inl (γ.2.1 0, 40, .inl ln))] ++ (aWd γ ab a0 a1 a2 a3 a4 a5 a6 a7 a) ++ [(pg, .inr (3, [.ref ps, .ref py, .ref pq, .int l3, .int l4, .int l5])), (py, .inl (γ.2.1 0, 40, .inl yy))])) 1 gw_452 gw_454 gp_0 gw_14 gw_455 hd_X5_begin hC hw (c_rbegin γ l rr rl ab mn h hg n f fa ab9 t2 tb t4 t5 t6 t7 hn hok) ⟨by decide, by decide⟩ ⟨by decide, by decide⟩ hl.1 rfl 0 rfl rfl rfl (Nat.le_of_ble_eq_true rfl) [0, 1, 2] [3, 4, 5, 6, 7, 8, 9, 10, 11, 12, 13] rfl rfl rfl rfl (by decide) dX5_readYears_2 (fun r w1 H locs hq hw => ?_)
  obtain ⟨rfl, rfl⟩ := hq
  have hw : kW γ A ([(rl, .inl (γ.2.1 0, 40, .inl ln))] ++ (aWd γ ab a0 a1 a2 a3 a4 a5 a6 a7 a) ++ [(pg, .inr (3, [.ref ps, .ref py, .ref pq, .int l3, .int l4, .int l5])), (py, .inl (γ.2.1 0, 40, .inl yy)), (rr, .inr (5, [.ref h, .ref rl, .ref ab, .int mn, .int ((rs0 f n t5 t6).1)]))] ++ (tWd γ h hg n f ((rs0 f n t5 t6).2.1) ((rs0 f n t5 t6).2.2.1) ((rs0 f n t5 t6).2.2.2))) s H locs := hw
  refine W.eq (g2 := F0 m 5 ls []) rfl ?_
  refine lv_aload_n hx hb dX5_readYears_5 rfl (lv_at hl 0 rfl) ?_
  refine lv_iconst (v := 0) hx hb dX5_readYears_6 (by decide) ?_
  refine fs_RX5_95 hC hw 11 rfl rfl rfl (Nat.le_of_ble_eq_true rfl) dX5_readYears_7 (fun H locs hw => ?_)
  have hw : kW γ A ([(rl, .inl (γ.2.1 0, 40, .inl ln))] ++ (aWd γ ab a0 a1 a2 a3 a4 a5 a6 a7 a) ++ [(pg, .inr (3, [.ref ps, .ref py, .ref pq, .int l3, .int l4, .int l5])), (py, .inl (γ.2.1 0, 40, .inl yy)), (rr, .inr (5, [.ref h, .ref rl, .ref ab, .int 0, .int ((rs0 f n t5 t6).1)]))] ++ (tWd γ h hg n f ((rs0 f n t5 t6).2.1) ((rs0 f n t5 t6).2.2.1) ((rs0 f n t5 t6).2.2.2))) s H locs := hw
  refine lv_iconst (v := 0) hx hb dX5_readYears_10 (by decide) ?_
  refine lv_istore_n (lv' := [(3, .int 0), (0, .ref rr), (1, .ref ab), (2, .ref pg)]) hx hb dX5_readYears_11 rfl hl (by decide) rfl (fun ls hl => ?_)
  have hE : (F_readYears f n a t5 t6 ln l3 yy) = (F_ryl f n a l3 yy 1000 (rs0 f n t5 t6) 0 ln) := by unfold F_readYears; rfl
  rw [hE]
  exact lp_ryl rr rl ab h hg n f a0 a1 a2 a3 a4 a5 a6 a7 a pg ps py pq l3 l4 l5 yy hn hok hA hC hr hlocks 1000 0 (rs0 f n t5 t6) 0 ln rfl (Nat.zero_le _) _ _ (kW.sub hw [11, 12, 13, 0, 1, 2, 3, 4, 5, 6, 7, 8, 9, 10] rfl rfl) _ (lv_sub hl [0, 1, 2, 3] rfl)

def F_years (f : Nat → Int32) (n : Nat) (a : aAS) (t5 : Int32) (t6 : Int64) (ln : Nat → Int32) (l3 : Int32) (yy : Nat → Int32) : Int32 × rRS × Nat × (Nat → Int32) × Int32 × (Nat → Int32) :=
  (((F_readYears f n a t5 t6 ln l3 yy).1), ((F_readYears f n a t5 t6 ln l3 yy).2.1), ((F_readYears f n a t5 t6 ln l3 yy).2.2.1), ((F_readYears f n a t5 t6 ln l3 yy).2.2.2.1), ((F_readYears f n a t5 t6 ln l3 yy).2.2.2.2.1), ((F_readYears f n a t5 t6 ln l3 yy).2.2.2.2.2))
set_option maxHeartbeats 4000000 in
set_option maxRecDepth 100000 in
theorem c_years (γ : kΓ) (l : Launch) (x : Nat) (x0 : Nat) (x1 : Nat) (x3 : Nat) (x4 : Nat) (x5 : Nat) (x6 : Nat) (x7 : Nat) (x10 : Nat) (rr : Nat) (rl : Nat) (ab : Nat) (mn : Int32) (h : Nat) (hg : Nat) (n : Nat) (f : Nat → Int32) (a0 : Nat) (a1 : Nat) (a2 : Nat) (a3 : Nat) (a4 : Nat) (a5 : Nat) (a6 : Nat) (a7 : Nat) (a : aAS) (fa : Int32) (ab9 : Nat) (t2 : Int32) (tb : Int32) (t4 : Int32) (t5 : Int32) (t6 : Int64) (t7 : Nat) (ln : Nat → Int32) (pg : Nat) (ps : Nat) (py : Nat) (pq : Nat) (l3 : Int32) (l4 : Int32) (l5 : Int32) (yy : Nat → Int32) (hn : n ≤ 1000) (hok : ∀ k, k < n → kok (f k) = true) (hA : aOK a) : kM γ l yX11_years cX11_years 1 ((some .int)) ({ frames := 5, cells := 0, slots := 0, locals := 128 } : Room) [.ref x] ([(x, .inr (10, [.ref x0, .ref x1, .ref pg, .ref x3, .ref x4, .ref x5, .ref x6, .ref x7, .ref rr, .ref ab, .ref x10])), (rr, .inr (5, [.ref h, .ref rl, .ref ab9, .int mn, .int fa])), (h, .inr (8, [.ref hg, .int (nI n), .int t2, .int tb, .int t4, .int t5, .long t6, .ref t7])), (hg, .inl (γ.2.1 2, 1000, .inl f)), (rl, .inl (γ.2.1 0, 40, .inl ln))] ++ (aWd γ ab a0 a1 a2 a3 a4 a5 a6 a7 a) ++ [(pg, .inr (3, [.ref ps, .ref py, .ref pq, .int l3, .int l4, .int l5])), (py, .inl (γ.2.1 0, 40, .inl yy))]) (fun r w1 => r = some (.int ((F_years f n a t5 t6 ln l3 yy).1)) ∧ w1 = ([(x, .inr (10, [.ref x0, .ref x1, .ref pg, .ref x3, .ref x4, .ref x5, .ref x6, .ref x7, .ref rr, .ref ab, .ref x10])), (rr, .inr (5, [.ref h, .ref rl, .ref ab, .int (nI ((F_years f n a t5 t6 ln l3 yy).2.2.1)), .int (((F_years f n a t5 t6 ln l3 yy).2.1).1)])), (h, .inr (8, [.ref hg, .int 0, .int (nI (ts f n (((F_years f n a t5 t6 ln l3 yy).2.1).2.1))), .int (nI (te f n (((F_years f n a t5 t6 ln l3 yy).2.1).2.1))), .int (tk f n (((F_years f n a t5 t6 ln l3 yy).2.1).2.1)), .int (((F_years f n a t5 t6 ln l3 yy).2.1).2.2.1), .long (((F_years f n a t5 t6 ln l3 yy).2.1).2.2.2), .ref (γ.2.2.2.2 (tw f n (((F_years f n a t5 t6 ln l3 yy).2.1).2.1)))])), (hg, .inl (γ.2.1 2, 1000, .inl f)), (rl, .inl (γ.2.1 0, 40, .inl ((F_years f n a t5 t6 ln l3 yy).2.2.2.1)))] ++ (aWd γ ab a0 a1 a2 a3 a4 a5 a6 a7 a) ++ [(pg, .inr (3, [.ref ps, .ref py, .ref pq, .int ((F_years f n a t5 t6 ln l3 yy).2.2.2.2.1), .int l4, .int l5])), (py, .inl (γ.2.1 0, 40, .inl ((F_years f n a t5 t6 ln l3 yy).2.2.2.2.2)))])) := by
  refine k_ofW (by decide) (Nat.le_of_ble_eq_true rfl) ?_
  intro p9 e s m below meth c A ls hC hr hlocks hname hw hl
  have hx := hC.1
  have hb := hC.2.1
  have hl : lv_has ls 1 [(0, .ref x)] := hl
  have hT : (a.2.2.2.2.2.2.2.1) ≤ 8 := hA.1
  have hQ : (a.2.2.2.2.2.2.2.2.1) ≤ 5 := hA.2.1
  have hE9 : (a.2.2.2.2.2.2.2.2.2.2.2.2.2.1) ≤ 1000 := hA.2.2
  refine lv_aload_n hx hb dX11_years_0 rfl (lv_at hl 0 rfl) ?_
  refine fg_RX11_77 hC hw 0 rfl rfl dX11_years_1 ?_
  refine lv_aload_n hx hb dX11_years_4 rfl (lv_at hl 0 rfl) ?_
  refine fg_RX11_65 hC hw 0 rfl rfl dX11_years_5 ?_
  refine lv_aload_n hx hb dX11_years_8 rfl (lv_at hl 0 rfl) ?_
  refine fg_RX11_26 hC hw 0 rfl rfl dX11_years_9 ?_
  refine k_V (wr := [(x, .inr (10, [.ref x0, .ref x1, .ref pg, .ref x3, .ref x4, .ref x5, .ref x6, .ref x7, .ref rr, .ref ab, .ref x10]))]) 2 gw_664 gw_665 gw_666 gw_14 gw_667 hd_X5_readYears hC hw (c_readYears γ l rr rl ab mn h hg n f a0 a1 a2 a3 a4 a5 a6 a7 a fa ab9 t2 tb t4 t5 t6 t7 ln pg ps py pq l3 l4 l5 yy hn hok hA) ⟨by decide, by decide⟩ ⟨by decide, by decide⟩ hl.1 rfl 1 rfl rfl rfl (Nat.le_of_ble_eq_true rfl) [1, 2, 3, 4, 5, 6, 7, 8, 9, 10, 11, 12, 13, 14] [0] rfl rfl rfl rfl (by decide) dX11_years_12 (fun r w1 H locs hq hw => ?_)
  obtain ⟨rfl, rfl⟩ := hq
  have hw : kW γ A ([(x, .inr (10, [.ref x0, .ref x1, .ref pg, .ref x3, .ref x4, .ref x5, .ref x6, .ref x7, .ref rr, .ref ab, .ref x10])), (rr, .inr (5, [.ref h, .ref rl, .ref ab, .int (nI ((F_readYears f n a t5 t6 ln l3 yy).2.2.1)), .int (((F_readYears f n a t5 t6 ln l3 yy).2.1).1)])), (h, .inr (8, [.ref hg, .int 0, .int (nI (ts f n (((F_readYears f n a t5 t6 ln l3 yy).2.1).2.1))), .int (nI (te f n (((F_readYears f n a t5 t6 ln l3 yy).2.1).2.1))), .int (tk f n (((F_readYears f n a t5 t6 ln l3 yy).2.1).2.1)), .int (((F_readYears f n a t5 t6 ln l3 yy).2.1).2.2.1), .long (((F_readYears f n a t5 t6 ln l3 yy).2.1).2.2.2), .ref (γ.2.2.2.2 (tw f n (((F_readYears f n a t5 t6 ln l3 yy).2.1).2.1)))])), (hg, .inl (γ.2.1 2, 1000, .inl f)), (rl, .inl (γ.2.1 0, 40, .inl ((F_readYears f n a t5 t6 ln l3 yy).2.2.2.1)))] ++ (aWd γ ab a0 a1 a2 a3 a4 a5 a6 a7 a) ++ [(pg, .inr (3, [.ref ps, .ref py, .ref pq, .int ((F_readYears f n a t5 t6 ln l3 yy).2.2.2.2.1), .int l4, .int l5])), (py, .inl (γ.2.1 0, 40, .inl ((F_readYears f n a t5 t6 ln l3 yy).2.2.2.2.2)))]) s H locs := hw
  refine W.eq (g2 := F0 m 15 ls [.int ((F_readYears f n a t5 t6 ln l3 yy).1)]) rfl ?_
  have hE : (F_years f n a t5 t6 ln l3 yy) = (((F_readYears f n a t5 t6 ln l3 yy).1), ((F_readYears f n a t5 t6 ln l3 yy).2.1), ((F_readYears f n a t5 t6 ln l3 yy).2.2.1), ((F_readYears f n a t5 t6 ln l3 yy).2.2.2.1), ((F_readYears f n a t5 t6 ln l3 yy).2.2.2.2.1), ((F_readYears f n a t5 t6 ln l3 yy).2.2.2.2.2)) := by unfold F_years; rfl
  have hw : kW γ A ([(x, .inr (10, [.ref x0, .ref x1, .ref pg, .ref x3, .ref x4, .ref x5, .ref x6, .ref x7, .ref rr, .ref ab, .ref x10])), (rr, .inr (5, [.ref h, .ref rl, .ref ab, .int (nI ((F_years f n a t5 t6 ln l3 yy).2.2.1)), .int (((F_years f n a t5 t6 ln l3 yy).2.1).1)])), (h, .inr (8, [.ref hg, .int 0, .int (nI (ts f n (((F_years f n a t5 t6 ln l3 yy).2.1).2.1))), .int (nI (te f n (((F_years f n a t5 t6 ln l3 yy).2.1).2.1))), .int (tk f n (((F_years f n a t5 t6 ln l3 yy).2.1).2.1)), .int (((F_years f n a t5 t6 ln l3 yy).2.1).2.2.1), .long (((F_years f n a t5 t6 ln l3 yy).2.1).2.2.2), .ref (γ.2.2.2.2 (tw f n (((F_years f n a t5 t6 ln l3 yy).2.1).2.1)))])), (hg, .inl (γ.2.1 2, 1000, .inl f)), (rl, .inl (γ.2.1 0, 40, .inl ((F_years f n a t5 t6 ln l3 yy).2.2.2.1)))] ++ (aWd γ ab a0 a1 a2 a3 a4 a5 a6 a7 a) ++ [(pg, .inr (3, [.ref ps, .ref py, .ref pq, .int ((F_years f n a t5 t6 ln l3 yy).2.2.2.2.1), .int l4, .int l5])), (py, .inl (γ.2.1 0, 40, .inl ((F_years f n a t5 t6 ln l3 yy).2.2.2.2.2)))]) s H locs := by first | (rw [hE]; exact hw) | exact hw
  exact k_iret hC hr hlocks hw [0, 1, 2, 3, 4, 5, 6, 7, 8, 9, 10, 11, 12, 13, 14] rfl rfl ⟨by rw [hE], rfl⟩ (by decide) (by decide) dX11_years_15


theorem dX5_readAbbey_0 : decode cX5_readAbbey 0 = .ok (.aload_n 1, 1) := by decide +kernel
theorem dX5_readAbbey_1 : decode cX5_readAbbey 1 = .ok (.invokevirtual 23, 3) := by decide +kernel
theorem dX5_readAbbey_4 : decode cX5_readAbbey 4 = .ok (.aload_n 0, 1) := by decide +kernel
theorem dX5_readAbbey_5 : decode cX5_readAbbey 5 = .ok (.aload_n 1, 1) := by decide +kernel
theorem dX5_readAbbey_6 : decode cX5_readAbbey 6 = .ok (.invokevirtual 28, 3) := by decide +kernel
theorem dX5_readAbbey_9 : decode cX5_readAbbey 9 = .ok (.iconst 0, 1) := by decide +kernel
theorem dX5_readAbbey_10 : decode cX5_readAbbey 10 = .ok (.istore_n 2, 1) := by decide +kernel
theorem dX5_readAbbey_11 : decode cX5_readAbbey 11 = .ok (.iload_n 2, 1) := by decide +kernel
theorem dX5_readAbbey_12 : decode cX5_readAbbey 12 = .ok (.sipush 1000, 3) := by decide +kernel
theorem dX5_readAbbey_15 : decode cX5_readAbbey 15 = .ok (.if_icmp .ge 122, 3) := by decide +kernel
theorem dX5_readAbbey_18 : decode cX5_readAbbey 18 = .ok (.aload_n 0, 1) := by decide +kernel
theorem dX5_readAbbey_19 : decode cX5_readAbbey 19 = .ok (.invokevirtual 32, 3) := by decide +kernel
theorem dX5_readAbbey_22 : decode cX5_readAbbey 22 = .ok (.ifCond .eq 115, 3) := by decide +kernel
theorem dX5_readAbbey_25 : decode cX5_readAbbey 25 = .ok (.aload_n 0, 1) := by decide +kernel
theorem dX5_readAbbey_26 : decode cX5_readAbbey 26 = .ok (.getfield 15, 3) := by decide +kernel
theorem dX5_readAbbey_29 : decode cX5_readAbbey 29 = .ok (.getfield 36, 3) := by decide +kernel
theorem dX5_readAbbey_32 : decode cX5_readAbbey 32 = .ok (.astore_n 3, 1) := by decide +kernel
theorem dX5_readAbbey_33 : decode cX5_readAbbey 33 = .ok (.aload_n 3, 1) := by decide +kernel
theorem dX5_readAbbey_34 : decode cX5_readAbbey 34 = .ok (.getstatic 42, 3) := by decide +kernel
theorem dX5_readAbbey_37 : decode cX5_readAbbey 37 = .ok (.if_acmp .ne 10, 3) := by decide +kernel
theorem dX5_readAbbey_40 : decode cX5_readAbbey 40 = .ok (.aload_n 0, 1) := by decide +kernel
theorem dX5_readAbbey_41 : decode cX5_readAbbey 41 = .ok (.invokevirtual 47, 3) := by decide +kernel
theorem dX5_readAbbey_44 : decode cX5_readAbbey 44 = .ok (.goto 87, 3) := by decide +kernel
theorem dX5_readAbbey_47 : decode cX5_readAbbey 47 = .ok (.aload_n 3, 1) := by decide +kernel
theorem dX5_readAbbey_48 : decode cX5_readAbbey 48 = .ok (.getstatic 50, 3) := by decide +kernel
theorem dX5_readAbbey_51 : decode cX5_readAbbey 51 = .ok (.if_acmp .ne 10, 3) := by decide +kernel
theorem dX5_readAbbey_54 : decode cX5_readAbbey 54 = .ok (.aload_n 0, 1) := by decide +kernel
theorem dX5_readAbbey_55 : decode cX5_readAbbey 55 = .ok (.invokevirtual 53, 3) := by decide +kernel
theorem dX5_readAbbey_58 : decode cX5_readAbbey 58 = .ok (.goto 73, 3) := by decide +kernel
theorem dX5_readAbbey_61 : decode cX5_readAbbey 61 = .ok (.aload_n 3, 1) := by decide +kernel
theorem dX5_readAbbey_62 : decode cX5_readAbbey 62 = .ok (.getstatic 56, 3) := by decide +kernel
theorem dX5_readAbbey_65 : decode cX5_readAbbey 65 = .ok (.if_acmp .ne 10, 3) := by decide +kernel
theorem dX5_readAbbey_68 : decode cX5_readAbbey 68 = .ok (.aload_n 0, 1) := by decide +kernel
theorem dX5_readAbbey_69 : decode cX5_readAbbey 69 = .ok (.invokevirtual 59, 3) := by decide +kernel
theorem dX5_readAbbey_72 : decode cX5_readAbbey 72 = .ok (.goto 59, 3) := by decide +kernel
theorem dX5_readAbbey_75 : decode cX5_readAbbey 75 = .ok (.aload_n 3, 1) := by decide +kernel
theorem dX5_readAbbey_76 : decode cX5_readAbbey 76 = .ok (.getstatic 62, 3) := by decide +kernel
theorem dX5_readAbbey_79 : decode cX5_readAbbey 79 = .ok (.if_acmp .eq 17, 3) := by decide +kernel
theorem dX5_readAbbey_82 : decode cX5_readAbbey 82 = .ok (.aload_n 3, 1) := by decide +kernel
theorem dX5_readAbbey_83 : decode cX5_readAbbey 83 = .ok (.getstatic 65, 3) := by decide +kernel
theorem dX5_readAbbey_86 : decode cX5_readAbbey 86 = .ok (.if_acmp .eq 10, 3) := by decide +kernel
theorem dX5_readAbbey_89 : decode cX5_readAbbey 89 = .ok (.aload_n 3, 1) := by decide +kernel
theorem dX5_readAbbey_90 : decode cX5_readAbbey 90 = .ok (.getstatic 68, 3) := by decide +kernel
theorem dX5_readAbbey_93 : decode cX5_readAbbey 93 = .ok (.if_acmp .ne 11, 3) := by decide +kernel
theorem dX5_readAbbey_96 : decode cX5_readAbbey 96 = .ok (.aload_n 0, 1) := by decide +kernel
theorem dX5_readAbbey_97 : decode cX5_readAbbey 97 = .ok (.aload_n 3, 1) := by decide +kernel
theorem dX5_readAbbey_98 : decode cX5_readAbbey 98 = .ok (.invokevirtual 71, 3) := by decide +kernel
theorem dX5_readAbbey_101 : decode cX5_readAbbey 101 = .ok (.goto 30, 3) := by decide +kernel
theorem dX5_readAbbey_104 : decode cX5_readAbbey 104 = .ok (.aload_n 3, 1) := by decide +kernel
theorem dX5_readAbbey_105 : decode cX5_readAbbey 105 = .ok (.getstatic 75, 3) := by decide +kernel
theorem dX5_readAbbey_108 : decode cX5_readAbbey 108 = .ok (.if_acmp .eq 10, 3) := by decide +kernel
theorem dX5_readAbbey_111 : decode cX5_readAbbey 111 = .ok (.aload_n 3, 1) := by decide +kernel
theorem dX5_readAbbey_112 : decode cX5_readAbbey 112 = .ok (.getstatic 78, 3) := by decide +kernel
theorem dX5_readAbbey_115 : decode cX5_readAbbey 115 = .ok (.if_acmp .ne 11, 3) := by decide +kernel
theorem dX5_readAbbey_118 : decode cX5_readAbbey 118 = .ok (.aload_n 0, 1) := by decide +kernel
theorem dX5_readAbbey_119 : decode cX5_readAbbey 119 = .ok (.aload_n 3, 1) := by decide +kernel
theorem dX5_readAbbey_120 : decode cX5_readAbbey 120 = .ok (.invokevirtual 81, 3) := by decide +kernel
theorem dX5_readAbbey_123 : decode cX5_readAbbey 123 = .ok (.goto 8, 3) := by decide +kernel
theorem dX5_readAbbey_126 : decode cX5_readAbbey 126 = .ok (.aload_n 0, 1) := by decide +kernel
theorem dX5_readAbbey_127 : decode cX5_readAbbey 127 = .ok (.iconst 1, 1) := by decide +kernel
theorem dX5_readAbbey_128 : decode cX5_readAbbey 128 = .ok (.invokevirtual 84, 3) := by decide +kernel
theorem dX5_readAbbey_131 : decode cX5_readAbbey 131 = .ok (.iinc 2 1, 3) := by decide +kernel
theorem dX5_readAbbey_134 : decode cX5_readAbbey 134 = .ok (.goto (-123), 3) := by decide +kernel
theorem dX5_readAbbey_137 : decode cX5_readAbbey 137 = .ok (.aload_n 0, 1) := by decide +kernel
theorem dX5_readAbbey_138 : decode cX5_readAbbey 138 = .ok (.getfield 15, 3) := by decide +kernel
theorem dX5_readAbbey_141 : decode cX5_readAbbey 141 = .ok (.invokevirtual 88, 3) := by decide +kernel
theorem dX5_readAbbey_144 : decode cX5_readAbbey 144 = .ok (.aload_n 0, 1) := by decide +kernel
theorem dX5_readAbbey_145 : decode cX5_readAbbey 145 = .ok (.getfield 91, 3) := by decide +kernel
theorem dX5_readAbbey_148 : decode cX5_readAbbey 148 = .ok (.ireturn, 1) := by decide +kernel
def F_rab (f : Nat → Int32) (n : Nat) : Nat → rRS → aAS → Int32 × rRS × aAS
  | 0, rs, a => ((rs.1), rs, a)
  | k + 1, rs, a => if (F_goesOn f n rs) = 0 then ((rs.1), rs, a) else (if (tw f n (rs.2.1)) = 2 then (F_rab f n k ((F_readThought f n rs a).1) ((F_readThought f n rs a).2)) else (if (tw f n (rs.2.1)) = 5 then (F_rab f n k ((F_readFollows f n rs a).1) ((F_readFollows f n rs a).2)) else (if (tw f n (rs.2.1)) = 6 then (F_rab f n k ((F_readTenant f n rs a).1) ((F_readTenant f n rs a).2)) else (if (tw f n (rs.2.1)) = 7 then (F_rab f n k ((F_readSetting f n rs a (tw f n (rs.2.1))).1) ((F_readSetting f n rs a (tw f n (rs.2.1))).2)) else (if (tw f n (rs.2.1)) = 8 then (F_rab f n k ((F_readSetting f n rs a (tw f n (rs.2.1))).1) ((F_readSetting f n rs a (tw f n (rs.2.1))).2)) else (if (tw f n (rs.2.1)) = 9 then (F_rab f n k ((F_readSetting f n rs a (tw f n (rs.2.1))).1) ((F_readSetting f n rs a (tw f n (rs.2.1))).2)) else (if (tw f n (rs.2.1)) = 10 then (F_rab f n k ((F_readLaw f n rs a (tw f n (rs.2.1))).1) ((F_readLaw f n rs a (tw f n (rs.2.1))).2)) else (if (tw f n (rs.2.1)) = 11 then (F_rab f n k ((F_readLaw f n rs a (tw f n (rs.2.1))).1) ((F_readLaw f n rs a (tw f n (rs.2.1))).2)) else (F_rab f n k (F_fail f n rs 1) a)))))))))
theorem F_rab_z {f : Nat → Int32} {n : Nat} {rs : rRS} {a : aAS} : (F_rab f n 0 rs a) = ((rs.1), rs, a) := rfl
theorem F_rab_s {f : Nat → Int32} {n : Nat} {rs : rRS} {a : aAS} {k : Nat} : (F_rab f n (k + 1) rs a) = (if (F_goesOn f n rs) = 0 then ((rs.1), rs, a) else (if (tw f n (rs.2.1)) = 2 then (F_rab f n k ((F_readThought f n rs a).1) ((F_readThought f n rs a).2)) else (if (tw f n (rs.2.1)) = 5 then (F_rab f n k ((F_readFollows f n rs a).1) ((F_readFollows f n rs a).2)) else (if (tw f n (rs.2.1)) = 6 then (F_rab f n k ((F_readTenant f n rs a).1) ((F_readTenant f n rs a).2)) else (if (tw f n (rs.2.1)) = 7 then (F_rab f n k ((F_readSetting f n rs a (tw f n (rs.2.1))).1) ((F_readSetting f n rs a (tw f n (rs.2.1))).2)) else (if (tw f n (rs.2.1)) = 8 then (F_rab f n k ((F_readSetting f n rs a (tw f n (rs.2.1))).1) ((F_readSetting f n rs a (tw f n (rs.2.1))).2)) else (if (tw f n (rs.2.1)) = 9 then (F_rab f n k ((F_readSetting f n rs a (tw f n (rs.2.1))).1) ((F_readSetting f n rs a (tw f n (rs.2.1))).2)) else (if (tw f n (rs.2.1)) = 10 then (F_rab f n k ((F_readLaw f n rs a (tw f n (rs.2.1))).1) ((F_readLaw f n rs a (tw f n (rs.2.1))).2)) else (if (tw f n (rs.2.1)) = 11 then (F_rab f n k ((F_readLaw f n rs a (tw f n (rs.2.1))).1) ((F_readLaw f n rs a (tw f n (rs.2.1))).2)) else (F_rab f n k (F_fail f n rs 1) a)))))))))) := rfl
set_option maxHeartbeats 4000000 in
set_option maxRecDepth 100000 in
theorem lp_rab {γ : kΓ} {l : Launch} {p : Program} {e : Env} {s : State} {m : MethodId} {below : List Frame} {meth : Method} {c : Code} {A : Nat → Prop} (rr : Nat) (rl : Nat) (ab : Nat) (mn : Int32) (h : Nat) (hg : Nat) (n : Nat) (f : Nat → Int32) (a0 : Nat) (a1 : Nat) (a2 : Nat) (a3 : Nat) (a4 : Nat) (a5 : Nat) (a6 : Nat) (a7 : Nat) (hn : n ≤ 1000) (hok : ∀ k, k < n → kok (f k) = true) (hC : kC γ p s m [.ref rr, .ref ab].toArray c cX5_readAbbey 4 RX5 A) (hr : meth.sig.returnType = (some .int)) (hlocks : meth.locks = false) : ∀ (k i : Nat) (rs : rRS) (a : aAS), i + k = 1000 → (aOK a) → ∀ (H : Heap) (locs : List Loc), kW γ A ([(rr, .inr (5, [.ref h, .ref rl, .ref ab, .int mn, .int (rs.1)]))] ++ (tWd γ h hg n f (rs.2.1) (rs.2.2.1) (rs.2.2.2)) ++ (aWd γ ab a0 a1 a2 a3 a4 a5 a6 a7 a)) s H locs → ∀ ls : Array Slot, lv_has ls 4 [(2, .int (nI i)), (0, .ref rr), (1, .ref ab)] → W p l e ({ frames := 40, cells := 0, slots := 0, locals := 966 } : Room) s m [.ref rr, .ref ab].toArray below meth c H locs 0 0 (MQ below (kQ γ A (fun r w1 => r = some (.int ((F_rab f n k rs a).1)) ∧ w1 = ([(rr, .inr (5, [.ref h, .ref rl, .ref ab, .int mn, .int (((F_rab f n k rs a).2.1).1)])), (h, .inr (8, [.ref hg, .int 0, .int (nI (ts f n (((F_rab f n k rs a).2.1).2.1))), .int (nI (te f n (((F_rab f n k rs a).2.1).2.1))), .int (tk f n (((F_rab f n k rs a).2.1).2.1)), .int (((F_rab f n k rs a).2.1).2.2.1), .long (((F_rab f n k rs a).2.1).2.2.2), .ref (γ.2.2.2.2 (tw f n (((F_rab f n k rs a).2.1).2.1)))])), (hg, .inl (γ.2.1 2, 1000, .inl f))] ++ (aWd γ ab a0 a1 a2 a3 a4 a5 a6 a7 ((F_rab f n k rs a).2.2))))) [.ref rr, .ref ab].toArray s 0 0 A) (F0 m 11 ls []) := by
  have hx := hC.1
  have hb := hC.2.1
  intro k
  induction k with
  | zero =>
    intro i rs a hk hA H locs hw ls hl
    refine lv_iload_n hx hb dX5_readAbbey_11 rfl (lv_at hl 0 rfl) ?_
    refine lv_sipush (v := 1000) hx hb dX5_readAbbey_12 (by decide) ?_
    refine lv_icmp_ge (tgt := 137) hx hb dX5_readAbbey_15 (by decide) (fun _ => ?_) (fun h => absurd (nI_le (a := 1000) (by omega) (by omega)) h)
    refine lv_aload_n hx hb dX5_readAbbey_137 rfl (lv_at hl 1 rfl) ?_
    refine fg_RX5_15 hC hw 0 rfl rfl dX5_readAbbey_138 ?_
    refine k_V (wr := ([(rr, .inr (5, [.ref h, .ref rl, .ref ab, .int mn, .int (rs.1)])), (hg, .inl (γ.2.1 2, 1000, .inl f))] ++ (aWd γ ab a0 a1 a2 a3 a4 a5 a6 a7 a))) 0 gw_643 gw_644 gw_645 gw_2 gw_646 hd_X8_empty hC hw (c_empty γ l h hg (nI n) (nI (ts f n (rs.2.1))) (nI (te f n (rs.2.1))) (tk f n (rs.2.1)) (rs.2.2.1) (rs.2.2.2) (γ.2.2.2.2 (tw f n (rs.2.1)))) ⟨by decide, by decide⟩ ⟨by decide, by decide⟩ hl.1 rfl 1 rfl rfl rfl (Nat.le_of_ble_eq_true rfl) [1] [0, 2, 3, 4, 5, 6, 7, 8, 9, 10] rfl rfl rfl rfl (by decide) dX5_readAbbey_141 (fun r w1 H locs hq hw => ?_)
    obtain ⟨rfl, rfl⟩ := hq
    have hw : kW γ A ([(rr, .inr (5, [.ref h, .ref rl, .ref ab, .int mn, .int (rs.1)])), (hg, .inl (γ.2.1 2, 1000, .inl f))] ++ (aWd γ ab a0 a1 a2 a3 a4 a5 a6 a7 a) ++ [(h, .inr (8, [.ref hg, .int 0, .int (nI (ts f n (rs.2.1))), .int (nI (te f n (rs.2.1))), .int (tk f n (rs.2.1)), .int (rs.2.2.1), .long (rs.2.2.2), .ref (γ.2.2.2.2 (tw f n (rs.2.1)))]))]) s H locs := hw
    refine W.eq (g2 := F0 m 144 ls []) rfl ?_
    refine lv_aload_n hx hb dX5_readAbbey_144 rfl (lv_at hl 1 rfl) ?_
    refine fg_RX5_91 hC hw 0 rfl rfl dX5_readAbbey_145 ?_
    have hE : (F_rab f n 0 rs a) = ((rs.1), rs, a) := by rfl
    have hw : kW γ A ([(rr, .inr (5, [.ref h, .ref rl, .ref ab, .int mn, .int (((F_rab f n 0 rs a).2.1).1)])), (hg, .inl (γ.2.1 2, 1000, .inl f))] ++ (aWd γ ab a0 a1 a2 a3 a4 a5 a6 a7 ((F_rab f n 0 rs a).2.2)) ++ [(h, .inr (8, [.ref hg, .int 0, .int (nI (ts f n (((F_rab f n 0 rs a).2.1).2.1))), .int (nI (te f n (((F_rab f n 0 rs a).2.1).2.1))), .int (tk f n (((F_rab f n 0 rs a).2.1).2.1)), .int (((F_rab f n 0 rs a).2.1).2.2.1), .long (((F_rab f n 0 rs a).2.1).2.2.2), .ref (γ.2.2.2.2 (tw f n (((F_rab f n 0 rs a).2.1).2.1)))]))]) s H locs := by first | (rw [hE]; exact hw) | exact hw
    exact k_iret hC hr hlocks hw [0, 10, 1, 2, 3, 4, 5, 6, 7, 8, 9] rfl rfl ⟨by rw [hE], rfl⟩ (by decide) (by decide) dX5_readAbbey_148
  | succ k ih =>
    intro i rs a hk hA H locs hw ls hl
    refine lv_iload_n hx hb dX5_readAbbey_11 rfl (lv_at hl 0 rfl) ?_
    refine lv_sipush (v := 1000) hx hb dX5_readAbbey_12 (by decide) ?_
    refine lv_icmp_ge (tgt := 137) hx hb dX5_readAbbey_15 (by decide) (fun h => absurd h (nI_ge (b := 1000) (by omega) (by decide))) (fun _ => ?_)
    refine lv_aload_n hx hb dX5_readAbbey_18 rfl (lv_at hl 1 rfl) ?_
    refine k_V (wr := (aWd γ ab a0 a1 a2 a3 a4 a5 a6 a7 a)) 0 gw_483 gw_485 gp_3 gw_14 gw_486 hd_X5_goesOn hC hw (c_goesOn γ l rr rl ab mn h hg n rs f hn hok) ⟨by decide, by decide⟩ ⟨by decide, by decide⟩ hl.1 rfl 0 rfl rfl rfl (Nat.le_of_ble_eq_true rfl) [0, 1, 2] [3, 4, 5, 6, 7, 8, 9, 10] rfl rfl rfl rfl (by decide) dX5_readAbbey_19 (fun r w1 H locs hq hw => ?_)
    obtain ⟨rfl, rfl⟩ := hq
    have hw : kW γ A ((aWd γ ab a0 a1 a2 a3 a4 a5 a6 a7 a) ++ [(rr, .inr (5, [.ref h, .ref rl, .ref ab, .int mn, .int (rs.1)]))] ++ (tWd γ h hg n f (rs.2.1) (rs.2.2.1) (rs.2.2.2))) s H locs := hw
    refine W.eq (g2 := F0 m 22 ls [.int (F_goesOn f n rs)]) rfl ?_
    refine lv_if_eq (tgt := 137) hx hb dX5_readAbbey_22 (by decide) (fun c_244 => ?_) (fun c_244 => ?_)
    · refine lv_aload_n hx hb dX5_readAbbey_137 rfl (lv_at hl 1 rfl) ?_
      refine fg_RX5_15 hC hw 8 rfl rfl dX5_readAbbey_138 ?_
      refine k_V (wr := ((aWd γ ab a0 a1 a2 a3 a4 a5 a6 a7 a) ++ [(rr, .inr (5, [.ref h, .ref rl, .ref ab, .int mn, .int (rs.1)])), (hg, .inl (γ.2.1 2, 1000, .inl f))])) 0 gw_643 gw_644 gw_645 gw_2 gw_646 hd_X8_empty hC hw (c_empty γ l h hg (nI n) (nI (ts f n (rs.2.1))) (nI (te f n (rs.2.1))) (tk f n (rs.2.1)) (rs.2.2.1) (rs.2.2.2) (γ.2.2.2.2 (tw f n (rs.2.1)))) ⟨by decide, by decide⟩ ⟨by decide, by decide⟩ hl.1 rfl 9 rfl rfl rfl (Nat.le_of_ble_eq_true rfl) [9] [0, 1, 2, 3, 4, 5, 6, 7, 8, 10] rfl rfl rfl rfl (by decide) dX5_readAbbey_141 (fun r w1 H locs hq hw => ?_)
      obtain ⟨rfl, rfl⟩ := hq
      have hw : kW γ A ((aWd γ ab a0 a1 a2 a3 a4 a5 a6 a7 a) ++ [(rr, .inr (5, [.ref h, .ref rl, .ref ab, .int mn, .int (rs.1)])), (hg, .inl (γ.2.1 2, 1000, .inl f)), (h, .inr (8, [.ref hg, .int 0, .int (nI (ts f n (rs.2.1))), .int (nI (te f n (rs.2.1))), .int (tk f n (rs.2.1)), .int (rs.2.2.1), .long (rs.2.2.2), .ref (γ.2.2.2.2 (tw f n (rs.2.1)))]))]) s H locs := hw
      refine W.eq (g2 := F0 m 144 ls []) rfl ?_
      refine lv_aload_n hx hb dX5_readAbbey_144 rfl (lv_at hl 1 rfl) ?_
      refine fg_RX5_91 hC hw 8 rfl rfl dX5_readAbbey_145 ?_
      have hE : (F_rab f n (k + 1) rs a) = ((rs.1), rs, a) := by rw [F_rab_s, if_pos c_244]
      have hw : kW γ A ((aWd γ ab a0 a1 a2 a3 a4 a5 a6 a7 ((F_rab f n (k + 1) rs a).2.2)) ++ [(rr, .inr (5, [.ref h, .ref rl, .ref ab, .int mn, .int (((F_rab f n (k + 1) rs a).2.1).1)])), (hg, .inl (γ.2.1 2, 1000, .inl f)), (h, .inr (8, [.ref hg, .int 0, .int (nI (ts f n (((F_rab f n (k + 1) rs a).2.1).2.1))), .int (nI (te f n (((F_rab f n (k + 1) rs a).2.1).2.1))), .int (tk f n (((F_rab f n (k + 1) rs a).2.1).2.1)), .int (((F_rab f n (k + 1) rs a).2.1).2.2.1), .long (((F_rab f n (k + 1) rs a).2.1).2.2.2), .ref (γ.2.2.2.2 (tw f n (((F_rab f n (k + 1) rs a).2.1).2.1)))]))]) s H locs := by first | (rw [hE]; exact hw) | exact hw
      exact k_iret hC hr hlocks hw [8, 10, 9, 0, 1, 2, 3, 4, 5, 6, 7] rfl rfl ⟨by rw [hE], rfl⟩ (by decide) (by decide) dX5_readAbbey_148
    · refine lv_aload_n hx hb dX5_readAbbey_25 rfl (lv_at hl 1 rfl) ?_
      refine fg_RX5_15 hC hw 8 rfl rfl dX5_readAbbey_26 ?_
      refine fg_RX5_36 hC hw 9 rfl rfl dX5_readAbbey_29 ?_
      refine lv_astore_n (lv' := [(3, .ref (γ.2.2.2.2 (tw f n (rs.2.1)))), (2, .int (nI i)), (0, .ref rr), (1, .ref ab)]) hx hb dX5_readAbbey_32 rfl hl (by decide) rfl (fun ls hl => ?_)
      refine lv_aload_n hx hb dX5_readAbbey_33 rfl (lv_at hl 0 rfl) ?_
      refine k_word hC hw (n := 2) (by decide) gw_487 dX5_readAbbey_34 ?_
      refine lv_acmp_ne (rx := some (γ.2.2.2.2 (tw f n (rs.2.1)))) (ry := some (γ.2.2.2.2 2)) (tgt := 47) hx hb dX5_readAbbey_37 (by decide) (fun c_245 => ?_) (fun c_245 => ?_)
      · have c_245 : ¬ (tw f n (rs.2.1)) = 2 := fun h9 => c_245 ((k_weq hC (tw_lt) (by decide)).mpr h9)
        refine lv_aload_n hx hb dX5_readAbbey_47 rfl (lv_at hl 0 rfl) ?_
        refine k_word hC hw (n := 5) (by decide) gw_537 dX5_readAbbey_48 ?_
        refine lv_acmp_ne (rx := some (γ.2.2.2.2 (tw f n (rs.2.1)))) (ry := some (γ.2.2.2.2 5)) (tgt := 61) hx hb dX5_readAbbey_51 (by decide) (fun c_246 => ?_) (fun c_246 => ?_)
        · have c_246 : ¬ (tw f n (rs.2.1)) = 5 := fun h9 => c_246 ((k_weq hC (tw_lt) (by decide)).mpr h9)
          refine lv_aload_n hx hb dX5_readAbbey_61 rfl (lv_at hl 0 rfl) ?_
          refine k_word hC hw (n := 6) (by decide) gw_562 dX5_readAbbey_62 ?_
          refine lv_acmp_ne (rx := some (γ.2.2.2.2 (tw f n (rs.2.1)))) (ry := some (γ.2.2.2.2 6)) (tgt := 75) hx hb dX5_readAbbey_65 (by decide) (fun c_247 => ?_) (fun c_247 => ?_)
          · have c_247 : ¬ (tw f n (rs.2.1)) = 6 := fun h9 => c_247 ((k_weq hC (tw_lt) (by decide)).mpr h9)
            refine lv_aload_n hx hb dX5_readAbbey_75 rfl (lv_at hl 0 rfl) ?_
            refine k_word hC hw (n := 7) (by decide) gw_584 dX5_readAbbey_76 ?_
            refine lv_acmp_eq (rx := some (γ.2.2.2.2 (tw f n (rs.2.1)))) (ry := some (γ.2.2.2.2 7)) (tgt := 96) hx hb dX5_readAbbey_79 (by decide) (fun c_248 => ?_) (fun c_248 => ?_)
            · have c_248 : (tw f n (rs.2.1)) = 7 := (k_weq hC (tw_lt) (by decide)).mp c_248
              refine lv_aload_n hx hb dX5_readAbbey_96 rfl (lv_at hl 2 rfl) ?_
              refine lv_aload_n hx hb dX5_readAbbey_97 rfl (lv_at hl 0 rfl) ?_
              refine k_V (wr := []) 1 gw_590 gw_592 gp_15 gw_14 gw_593 hd_X5_readSetting hC hw (c_readSetting γ l rr rl ab mn h hg n rs f a0 a1 a2 a3 a4 a5 a6 a7 a (tw f n (rs.2.1)) hn hok hA tw_lt) ⟨by decide, by decide⟩ ⟨by decide, by decide⟩ hl.1 rfl 8 rfl rfl rfl (Nat.le_of_ble_eq_true rfl) [8, 9, 10, 0, 1, 2, 3, 4, 5, 6, 7] [] rfl rfl rfl rfl (by decide) dX5_readAbbey_98 (fun r w1 H locs hq hw => ?_)
              obtain ⟨rfl, rfl⟩ := hq
              have hw : kW γ A ([(rr, .inr (5, [.ref h, .ref rl, .ref ab, .int mn, .int (((F_readSetting f n rs a (tw f n (rs.2.1))).1).1)]))] ++ (tWd γ h hg n f (((F_readSetting f n rs a (tw f n (rs.2.1))).1).2.1) (((F_readSetting f n rs a (tw f n (rs.2.1))).1).2.2.1) (((F_readSetting f n rs a (tw f n (rs.2.1))).1).2.2.2)) ++ (aWd γ ab a0 a1 a2 a3 a4 a5 a6 a7 ((F_readSetting f n rs a (tw f n (rs.2.1))).2))) s H locs := hw
              refine W.eq (g2 := F0 m 101 ls []) rfl ?_
              refine lv_goto (tgt := 131) hx hb dX5_readAbbey_101 (by decide) ?_
              refine lv_iinc (v := (nI (i + 1))) (lv' := [(2, .int (nI (i + 1))), (3, .ref (γ.2.2.2.2 (tw f n (rs.2.1)))), (0, .ref rr), (1, .ref ab)]) hx hb dX5_readAbbey_131 hl (k := 1) rfl (nI_1 i) (by decide) rfl (fun ls hl => ?_)
              refine lv_goto (tgt := 11) hx hb dX5_readAbbey_134 (by decide) ?_
              have hE : (F_rab f n (k + 1) rs a) = (F_rab f n k ((F_readSetting f n rs a (tw f n (rs.2.1))).1) ((F_readSetting f n rs a (tw f n (rs.2.1))).2)) := by rw [F_rab_s, if_neg c_244, if_neg c_245, if_neg c_246, if_neg c_247, if_pos c_248]
              rw [hE]
              exact ih (i + 1) ((F_readSetting f n rs a (tw f n (rs.2.1))).1) ((F_readSetting f n rs a (tw f n (rs.2.1))).2) (by omega) (ok_readSetting hn hA) _ _ (kW.sub hw [0, 1, 2, 3, 4, 5, 6, 7, 8, 9, 10] rfl rfl) _ (lv_sub hl [0, 2, 3] rfl)
            · have c_248 : ¬ (tw f n (rs.2.1)) = 7 := fun h9 => c_248 ((k_weq hC (tw_lt) (by decide)).mpr h9)
              refine lv_aload_n hx hb dX5_readAbbey_82 rfl (lv_at hl 0 rfl) ?_
              refine k_word hC hw (n := 8) (by decide) gw_586 dX5_readAbbey_83 ?_
              refine lv_acmp_eq (rx := some (γ.2.2.2.2 (tw f n (rs.2.1)))) (ry := some (γ.2.2.2.2 8)) (tgt := 96) hx hb dX5_readAbbey_86 (by decide) (fun c_249 => ?_) (fun c_249 => ?_)
              · have c_249 : (tw f n (rs.2.1)) = 8 := (k_weq hC (tw_lt) (by decide)).mp c_249
                refine lv_aload_n hx hb dX5_readAbbey_96 rfl (lv_at hl 2 rfl) ?_
                refine lv_aload_n hx hb dX5_readAbbey_97 rfl (lv_at hl 0 rfl) ?_
                refine k_V (wr := []) 1 gw_590 gw_592 gp_15 gw_14 gw_593 hd_X5_readSetting hC hw (c_readSetting γ l rr rl ab mn h hg n rs f a0 a1 a2 a3 a4 a5 a6 a7 a (tw f n (rs.2.1)) hn hok hA tw_lt) ⟨by decide, by decide⟩ ⟨by decide, by decide⟩ hl.1 rfl 8 rfl rfl rfl (Nat.le_of_ble_eq_true rfl) [8, 9, 10, 0, 1, 2, 3, 4, 5, 6, 7] [] rfl rfl rfl rfl (by decide) dX5_readAbbey_98 (fun r w1 H locs hq hw => ?_)
                obtain ⟨rfl, rfl⟩ := hq
                have hw : kW γ A ([(rr, .inr (5, [.ref h, .ref rl, .ref ab, .int mn, .int (((F_readSetting f n rs a (tw f n (rs.2.1))).1).1)]))] ++ (tWd γ h hg n f (((F_readSetting f n rs a (tw f n (rs.2.1))).1).2.1) (((F_readSetting f n rs a (tw f n (rs.2.1))).1).2.2.1) (((F_readSetting f n rs a (tw f n (rs.2.1))).1).2.2.2)) ++ (aWd γ ab a0 a1 a2 a3 a4 a5 a6 a7 ((F_readSetting f n rs a (tw f n (rs.2.1))).2))) s H locs := hw
                refine W.eq (g2 := F0 m 101 ls []) rfl ?_
                refine lv_goto (tgt := 131) hx hb dX5_readAbbey_101 (by decide) ?_
                refine lv_iinc (v := (nI (i + 1))) (lv' := [(2, .int (nI (i + 1))), (3, .ref (γ.2.2.2.2 (tw f n (rs.2.1)))), (0, .ref rr), (1, .ref ab)]) hx hb dX5_readAbbey_131 hl (k := 1) rfl (nI_1 i) (by decide) rfl (fun ls hl => ?_)
                refine lv_goto (tgt := 11) hx hb dX5_readAbbey_134 (by decide) ?_
                have hE : (F_rab f n (k + 1) rs a) = (F_rab f n k ((F_readSetting f n rs a (tw f n (rs.2.1))).1) ((F_readSetting f n rs a (tw f n (rs.2.1))).2)) := by rw [F_rab_s, if_neg c_244, if_neg c_245, if_neg c_246, if_neg c_247, if_neg c_248, if_pos c_249]
                rw [hE]
                exact ih (i + 1) ((F_readSetting f n rs a (tw f n (rs.2.1))).1) ((F_readSetting f n rs a (tw f n (rs.2.1))).2) (by omega) (ok_readSetting hn hA) _ _ (kW.sub hw [0, 1, 2, 3, 4, 5, 6, 7, 8, 9, 10] rfl rfl) _ (lv_sub hl [0, 2, 3] rfl)
              · have c_249 : ¬ (tw f n (rs.2.1)) = 8 := fun h9 => c_249 ((k_weq hC (tw_lt) (by decide)).mpr h9)
                refine lv_aload_n hx hb dX5_readAbbey_89 rfl (lv_at hl 0 rfl) ?_
                refine k_word hC hw (n := 9) (by decide) gw_588 dX5_readAbbey_90 ?_
                refine lv_acmp_ne (rx := some (γ.2.2.2.2 (tw f n (rs.2.1)))) (ry := some (γ.2.2.2.2 9)) (tgt := 104) hx hb dX5_readAbbey_93 (by decide) (fun c_250 => ?_) (fun c_250 => ?_)
                · have c_250 : ¬ (tw f n (rs.2.1)) = 9 := fun h9 => c_250 ((k_weq hC (tw_lt) (by decide)).mpr h9)
                  refine lv_aload_n hx hb dX5_readAbbey_104 rfl (lv_at hl 0 rfl) ?_
                  refine k_word hC hw (n := 10) (by decide) gw_598 dX5_readAbbey_105 ?_
                  refine lv_acmp_eq (rx := some (γ.2.2.2.2 (tw f n (rs.2.1)))) (ry := some (γ.2.2.2.2 10)) (tgt := 118) hx hb dX5_readAbbey_108 (by decide) (fun c_251 => ?_) (fun c_251 => ?_)
                  · have c_251 : (tw f n (rs.2.1)) = 10 := (k_weq hC (tw_lt) (by decide)).mp c_251
                    refine lv_aload_n hx hb dX5_readAbbey_118 rfl (lv_at hl 2 rfl) ?_
                    refine lv_aload_n hx hb dX5_readAbbey_119 rfl (lv_at hl 0 rfl) ?_
                    refine k_V (wr := []) 1 gw_602 gw_604 gp_17 gw_14 gw_605 hd_X5_readLaw hC hw (c_readLaw γ l rr rl ab mn h hg n rs f a0 a1 a2 a3 a4 a5 a6 a7 a (tw f n (rs.2.1)) hn hok hA tw_lt) ⟨by decide, by decide⟩ ⟨by decide, by decide⟩ hl.1 rfl 8 rfl rfl rfl (Nat.le_of_ble_eq_true rfl) [8, 9, 10, 0, 1, 2, 3, 4, 5, 6, 7] [] rfl rfl rfl rfl (by decide) dX5_readAbbey_120 (fun r w1 H locs hq hw => ?_)
                    obtain ⟨rfl, rfl⟩ := hq
                    have hw : kW γ A ([(rr, .inr (5, [.ref h, .ref rl, .ref ab, .int mn, .int (((F_readLaw f n rs a (tw f n (rs.2.1))).1).1)]))] ++ (tWd γ h hg n f (((F_readLaw f n rs a (tw f n (rs.2.1))).1).2.1) (((F_readLaw f n rs a (tw f n (rs.2.1))).1).2.2.1) (((F_readLaw f n rs a (tw f n (rs.2.1))).1).2.2.2)) ++ (aWd γ ab a0 a1 a2 a3 a4 a5 a6 a7 ((F_readLaw f n rs a (tw f n (rs.2.1))).2))) s H locs := hw
                    refine W.eq (g2 := F0 m 123 ls []) rfl ?_
                    refine lv_goto (tgt := 131) hx hb dX5_readAbbey_123 (by decide) ?_
                    refine lv_iinc (v := (nI (i + 1))) (lv' := [(2, .int (nI (i + 1))), (3, .ref (γ.2.2.2.2 (tw f n (rs.2.1)))), (0, .ref rr), (1, .ref ab)]) hx hb dX5_readAbbey_131 hl (k := 1) rfl (nI_1 i) (by decide) rfl (fun ls hl => ?_)
                    refine lv_goto (tgt := 11) hx hb dX5_readAbbey_134 (by decide) ?_
                    have hE : (F_rab f n (k + 1) rs a) = (F_rab f n k ((F_readLaw f n rs a (tw f n (rs.2.1))).1) ((F_readLaw f n rs a (tw f n (rs.2.1))).2)) := by rw [F_rab_s, if_neg c_244, if_neg c_245, if_neg c_246, if_neg c_247, if_neg c_248, if_neg c_249, if_neg c_250, if_pos c_251]
                    rw [hE]
                    exact ih (i + 1) ((F_readLaw f n rs a (tw f n (rs.2.1))).1) ((F_readLaw f n rs a (tw f n (rs.2.1))).2) (by omega) (ok_readLaw hn hA) _ _ (kW.sub hw [0, 1, 2, 3, 4, 5, 6, 7, 8, 9, 10] rfl rfl) _ (lv_sub hl [0, 2, 3] rfl)
                  · have c_251 : ¬ (tw f n (rs.2.1)) = 10 := fun h9 => c_251 ((k_weq hC (tw_lt) (by decide)).mpr h9)
                    refine lv_aload_n hx hb dX5_readAbbey_111 rfl (lv_at hl 0 rfl) ?_
                    refine k_word hC hw (n := 11) (by decide) gw_600 dX5_readAbbey_112 ?_
                    refine lv_acmp_ne (rx := some (γ.2.2.2.2 (tw f n (rs.2.1)))) (ry := some (γ.2.2.2.2 11)) (tgt := 126) hx hb dX5_readAbbey_115 (by decide) (fun c_252 => ?_) (fun c_252 => ?_)
                    · have c_252 : ¬ (tw f n (rs.2.1)) = 11 := fun h9 => c_252 ((k_weq hC (tw_lt) (by decide)).mpr h9)
                      refine lv_aload_n hx hb dX5_readAbbey_126 rfl (lv_at hl 2 rfl) ?_
                      refine lv_iconst (v := 1) hx hb dX5_readAbbey_127 (by decide) ?_
                      refine k_V (wr := (aWd γ ab a0 a1 a2 a3 a4 a5 a6 a7 a)) 1 gw_493 gw_495 gp_5 gw_14 gw_496 hd_X5_fail hC hw (c_fail γ l rr rl ab mn h hg n rs f 1 hn hok) ⟨by decide, by decide⟩ ⟨by decide, by decide⟩ hl.1 rfl 8 rfl rfl rfl (Nat.le_of_ble_eq_true rfl) [8, 9, 10] [0, 1, 2, 3, 4, 5, 6, 7] rfl rfl rfl rfl (by decide) dX5_readAbbey_128 (fun r w1 H locs hq hw => ?_)
                      obtain ⟨rfl, rfl⟩ := hq
                      have hw : kW γ A ((aWd γ ab a0 a1 a2 a3 a4 a5 a6 a7 a) ++ [(rr, .inr (5, [.ref h, .ref rl, .ref ab, .int mn, .int ((F_fail f n rs 1).1)]))] ++ (tWd γ h hg n f ((F_fail f n rs 1).2.1) ((F_fail f n rs 1).2.2.1) ((F_fail f n rs 1).2.2.2))) s H locs := hw
                      refine W.eq (g2 := F0 m 131 ls []) rfl ?_
                      refine lv_iinc (v := (nI (i + 1))) (lv' := [(2, .int (nI (i + 1))), (3, .ref (γ.2.2.2.2 (tw f n (rs.2.1)))), (0, .ref rr), (1, .ref ab)]) hx hb dX5_readAbbey_131 hl (k := 1) rfl (nI_1 i) (by decide) rfl (fun ls hl => ?_)
                      refine lv_goto (tgt := 11) hx hb dX5_readAbbey_134 (by decide) ?_
                      have hE : (F_rab f n (k + 1) rs a) = (F_rab f n k (F_fail f n rs 1) a) := by rw [F_rab_s, if_neg c_244, if_neg c_245, if_neg c_246, if_neg c_247, if_neg c_248, if_neg c_249, if_neg c_250, if_neg c_251, if_neg c_252]
                      rw [hE]
                      exact ih (i + 1) (F_fail f n rs 1) a (by omega) hA _ _ (kW.sub hw [8, 9, 10, 0, 1, 2, 3, 4, 5, 6, 7] rfl rfl) _ (lv_sub hl [0, 2, 3] rfl)
                    · have c_252 : (tw f n (rs.2.1)) = 11 := (k_weq hC (tw_lt) (by decide)).mp c_252
                      refine lv_aload_n hx hb dX5_readAbbey_118 rfl (lv_at hl 2 rfl) ?_
                      refine lv_aload_n hx hb dX5_readAbbey_119 rfl (lv_at hl 0 rfl) ?_
                      refine k_V (wr := []) 1 gw_602 gw_604 gp_17 gw_14 gw_605 hd_X5_readLaw hC hw (c_readLaw γ l rr rl ab mn h hg n rs f a0 a1 a2 a3 a4 a5 a6 a7 a (tw f n (rs.2.1)) hn hok hA tw_lt) ⟨by decide, by decide⟩ ⟨by decide, by decide⟩ hl.1 rfl 8 rfl rfl rfl (Nat.le_of_ble_eq_true rfl) [8, 9, 10, 0, 1, 2, 3, 4, 5, 6, 7] [] rfl rfl rfl rfl (by decide) dX5_readAbbey_120 (fun r w1 H locs hq hw => ?_)
                      obtain ⟨rfl, rfl⟩ := hq
                      have hw : kW γ A ([(rr, .inr (5, [.ref h, .ref rl, .ref ab, .int mn, .int (((F_readLaw f n rs a (tw f n (rs.2.1))).1).1)]))] ++ (tWd γ h hg n f (((F_readLaw f n rs a (tw f n (rs.2.1))).1).2.1) (((F_readLaw f n rs a (tw f n (rs.2.1))).1).2.2.1) (((F_readLaw f n rs a (tw f n (rs.2.1))).1).2.2.2)) ++ (aWd γ ab a0 a1 a2 a3 a4 a5 a6 a7 ((F_readLaw f n rs a (tw f n (rs.2.1))).2))) s H locs := hw
                      refine W.eq (g2 := F0 m 123 ls []) rfl ?_
                      refine lv_goto (tgt := 131) hx hb dX5_readAbbey_123 (by decide) ?_
                      refine lv_iinc (v := (nI (i + 1))) (lv' := [(2, .int (nI (i + 1))), (3, .ref (γ.2.2.2.2 (tw f n (rs.2.1)))), (0, .ref rr), (1, .ref ab)]) hx hb dX5_readAbbey_131 hl (k := 1) rfl (nI_1 i) (by decide) rfl (fun ls hl => ?_)
                      refine lv_goto (tgt := 11) hx hb dX5_readAbbey_134 (by decide) ?_
                      have hE : (F_rab f n (k + 1) rs a) = (F_rab f n k ((F_readLaw f n rs a (tw f n (rs.2.1))).1) ((F_readLaw f n rs a (tw f n (rs.2.1))).2)) := by rw [F_rab_s, if_neg c_244, if_neg c_245, if_neg c_246, if_neg c_247, if_neg c_248, if_neg c_249, if_neg c_250, if_neg c_251, if_pos c_252]
                      rw [hE]
                      exact ih (i + 1) ((F_readLaw f n rs a (tw f n (rs.2.1))).1) ((F_readLaw f n rs a (tw f n (rs.2.1))).2) (by omega) (ok_readLaw hn hA) _ _ (kW.sub hw [0, 1, 2, 3, 4, 5, 6, 7, 8, 9, 10] rfl rfl) _ (lv_sub hl [0, 2, 3] rfl)
                · have c_250 : (tw f n (rs.2.1)) = 9 := (k_weq hC (tw_lt) (by decide)).mp c_250
                  refine lv_aload_n hx hb dX5_readAbbey_96 rfl (lv_at hl 2 rfl) ?_
                  refine lv_aload_n hx hb dX5_readAbbey_97 rfl (lv_at hl 0 rfl) ?_
                  refine k_V (wr := []) 1 gw_590 gw_592 gp_15 gw_14 gw_593 hd_X5_readSetting hC hw (c_readSetting γ l rr rl ab mn h hg n rs f a0 a1 a2 a3 a4 a5 a6 a7 a (tw f n (rs.2.1)) hn hok hA tw_lt) ⟨by decide, by decide⟩ ⟨by decide, by decide⟩ hl.1 rfl 8 rfl rfl rfl (Nat.le_of_ble_eq_true rfl) [8, 9, 10, 0, 1, 2, 3, 4, 5, 6, 7] [] rfl rfl rfl rfl (by decide) dX5_readAbbey_98 (fun r w1 H locs hq hw => ?_)
                  obtain ⟨rfl, rfl⟩ := hq
                  have hw : kW γ A ([(rr, .inr (5, [.ref h, .ref rl, .ref ab, .int mn, .int (((F_readSetting f n rs a (tw f n (rs.2.1))).1).1)]))] ++ (tWd γ h hg n f (((F_readSetting f n rs a (tw f n (rs.2.1))).1).2.1) (((F_readSetting f n rs a (tw f n (rs.2.1))).1).2.2.1) (((F_readSetting f n rs a (tw f n (rs.2.1))).1).2.2.2)) ++ (aWd γ ab a0 a1 a2 a3 a4 a5 a6 a7 ((F_readSetting f n rs a (tw f n (rs.2.1))).2))) s H locs := hw
                  refine W.eq (g2 := F0 m 101 ls []) rfl ?_
                  refine lv_goto (tgt := 131) hx hb dX5_readAbbey_101 (by decide) ?_
                  refine lv_iinc (v := (nI (i + 1))) (lv' := [(2, .int (nI (i + 1))), (3, .ref (γ.2.2.2.2 (tw f n (rs.2.1)))), (0, .ref rr), (1, .ref ab)]) hx hb dX5_readAbbey_131 hl (k := 1) rfl (nI_1 i) (by decide) rfl (fun ls hl => ?_)
                  refine lv_goto (tgt := 11) hx hb dX5_readAbbey_134 (by decide) ?_
                  have hE : (F_rab f n (k + 1) rs a) = (F_rab f n k ((F_readSetting f n rs a (tw f n (rs.2.1))).1) ((F_readSetting f n rs a (tw f n (rs.2.1))).2)) := by rw [F_rab_s, if_neg c_244, if_neg c_245, if_neg c_246, if_neg c_247, if_neg c_248, if_neg c_249, if_pos c_250]
                  rw [hE]
                  exact ih (i + 1) ((F_readSetting f n rs a (tw f n (rs.2.1))).1) ((F_readSetting f n rs a (tw f n (rs.2.1))).2) (by omega) (ok_readSetting hn hA) _ _ (kW.sub hw [0, 1, 2, 3, 4, 5, 6, 7, 8, 9, 10] rfl rfl) _ (lv_sub hl [0, 2, 3] rfl)
          · have c_247 : (tw f n (rs.2.1)) = 6 := (k_weq hC (tw_lt) (by decide)).mp c_247
            refine lv_aload_n hx hb dX5_readAbbey_68 rfl (lv_at hl 2 rfl) ?_
            refine k_V (wr := []) 0 gw_564 gw_566 gp_14 gw_14 gw_567 hd_X5_readTenant hC hw (c_readTenant γ l rr rl ab mn h hg n rs f a0 a1 a2 a3 a4 a5 a6 a7 a hn hok hA) ⟨by decide, by decide⟩ ⟨by decide, by decide⟩ hl.1 rfl 8 rfl rfl rfl (Nat.le_of_ble_eq_true rfl) [8, 9, 10, 0, 1, 2, 3, 4, 5, 6, 7] [] rfl rfl rfl rfl (by decide) dX5_readAbbey_69 (fun r w1 H locs hq hw => ?_)
            obtain ⟨rfl, rfl⟩ := hq
            have hw : kW γ A ([(rr, .inr (5, [.ref h, .ref rl, .ref ab, .int mn, .int (((F_readTenant f n rs a).1).1)]))] ++ (tWd γ h hg n f (((F_readTenant f n rs a).1).2.1) (((F_readTenant f n rs a).1).2.2.1) (((F_readTenant f n rs a).1).2.2.2)) ++ (aWd γ ab a0 a1 a2 a3 a4 a5 a6 a7 ((F_readTenant f n rs a).2))) s H locs := hw
            refine W.eq (g2 := F0 m 72 ls []) rfl ?_
            refine lv_goto (tgt := 131) hx hb dX5_readAbbey_72 (by decide) ?_
            refine lv_iinc (v := (nI (i + 1))) (lv' := [(2, .int (nI (i + 1))), (3, .ref (γ.2.2.2.2 (tw f n (rs.2.1)))), (0, .ref rr), (1, .ref ab)]) hx hb dX5_readAbbey_131 hl (k := 1) rfl (nI_1 i) (by decide) rfl (fun ls hl => ?_)
            refine lv_goto (tgt := 11) hx hb dX5_readAbbey_134 (by decide) ?_
            have hE : (F_rab f n (k + 1) rs a) = (F_rab f n k ((F_readTenant f n rs a).1) ((F_readTenant f n rs a).2)) := by rw [F_rab_s, if_neg c_244, if_neg c_245, if_neg c_246, if_pos c_247]
            rw [hE]
            exact ih (i + 1) ((F_readTenant f n rs a).1) ((F_readTenant f n rs a).2) (by omega) (ok_readTenant hn hA) _ _ (kW.sub hw [0, 1, 2, 3, 4, 5, 6, 7, 8, 9, 10] rfl rfl) _ (lv_sub hl [0, 2, 3] rfl)
        · have c_246 : (tw f n (rs.2.1)) = 5 := (k_weq hC (tw_lt) (by decide)).mp c_246
          refine lv_aload_n hx hb dX5_readAbbey_54 rfl (lv_at hl 2 rfl) ?_
          refine k_V (wr := []) 0 gw_539 gw_541 gp_11 gw_14 gw_542 hd_X5_readFollows hC hw (c_readFollows γ l rr rl ab mn h hg n rs f a0 a1 a2 a3 a4 a5 a6 a7 a hn hok hA) ⟨by decide, by decide⟩ ⟨by decide, by decide⟩ hl.1 rfl 8 rfl rfl rfl (Nat.le_of_ble_eq_true rfl) [8, 9, 10, 0, 1, 2, 3, 4, 5, 6, 7] [] rfl rfl rfl rfl (by decide) dX5_readAbbey_55 (fun r w1 H locs hq hw => ?_)
          obtain ⟨rfl, rfl⟩ := hq
          have hw : kW γ A ([(rr, .inr (5, [.ref h, .ref rl, .ref ab, .int mn, .int (((F_readFollows f n rs a).1).1)]))] ++ (tWd γ h hg n f (((F_readFollows f n rs a).1).2.1) (((F_readFollows f n rs a).1).2.2.1) (((F_readFollows f n rs a).1).2.2.2)) ++ (aWd γ ab a0 a1 a2 a3 a4 a5 a6 a7 ((F_readFollows f n rs a).2))) s H locs := hw
          refine W.eq (g2 := F0 m 58 ls []) rfl ?_
          refine lv_goto (tgt := 131) hx hb dX5_readAbbey_58 (by decide) ?_
          refine lv_iinc (v := (nI (i + 1))) (lv' := [(2, .int (nI (i + 1))), (3, .ref (γ.2.2.2.2 (tw f n (rs.2.1)))), (0, .ref rr), (1, .ref ab)]) hx hb dX5_readAbbey_131 hl (k := 1) rfl (nI_1 i) (by decide) rfl (fun ls hl => ?_)
          refine lv_goto (tgt := 11) hx hb dX5_readAbbey_134 (by decide) ?_
          have hE : (F_rab f n (k + 1) rs a) = (F_rab f n k ((F_readFollows f n rs a).1) ((F_readFollows f n rs a).2)) := by rw [F_rab_s, if_neg c_244, if_neg c_245, if_pos c_246]
          rw [hE]
          exact ih (i + 1) ((F_readFollows f n rs a).1) ((F_readFollows f n rs a).2) (by omega) (ok_readFollows hn hA) _ _ (kW.sub hw [0, 1, 2, 3, 4, 5, 6, 7, 8, 9, 10] rfl rfl) _ (lv_sub hl [0, 2, 3] rfl)
      · have c_245 : (tw f n (rs.2.1)) = 2 := (k_weq hC (tw_lt) (by decide)).mp c_245
        refine lv_aload_n hx hb dX5_readAbbey_40 rfl (lv_at hl 2 rfl) ?_
        refine k_V (wr := []) 0 gw_489 gw_491 gp_4 gw_14 gw_492 hd_X5_readThought hC hw (c_readThought γ l rr rl ab mn h hg n rs f a0 a1 a2 a3 a4 a5 a6 a7 a hn hok hA) ⟨by decide, by decide⟩ ⟨by decide, by decide⟩ hl.1 rfl 8 rfl rfl rfl (Nat.le_of_ble_eq_true rfl) [8, 9, 10, 0, 1, 2, 3, 4, 5, 6, 7] [] rfl rfl rfl rfl (by decide) dX5_readAbbey_41 (fun r w1 H locs hq hw => ?_)
        obtain ⟨rfl, rfl⟩ := hq
        have hw : kW γ A ([(rr, .inr (5, [.ref h, .ref rl, .ref ab, .int mn, .int (((F_readThought f n rs a).1).1)]))] ++ (tWd γ h hg n f (((F_readThought f n rs a).1).2.1) (((F_readThought f n rs a).1).2.2.1) (((F_readThought f n rs a).1).2.2.2)) ++ (aWd γ ab a0 a1 a2 a3 a4 a5 a6 a7 ((F_readThought f n rs a).2))) s H locs := hw
        refine W.eq (g2 := F0 m 44 ls []) rfl ?_
        refine lv_goto (tgt := 131) hx hb dX5_readAbbey_44 (by decide) ?_
        refine lv_iinc (v := (nI (i + 1))) (lv' := [(2, .int (nI (i + 1))), (3, .ref (γ.2.2.2.2 (tw f n (rs.2.1)))), (0, .ref rr), (1, .ref ab)]) hx hb dX5_readAbbey_131 hl (k := 1) rfl (nI_1 i) (by decide) rfl (fun ls hl => ?_)
        refine lv_goto (tgt := 11) hx hb dX5_readAbbey_134 (by decide) ?_
        have hE : (F_rab f n (k + 1) rs a) = (F_rab f n k ((F_readThought f n rs a).1) ((F_readThought f n rs a).2)) := by rw [F_rab_s, if_neg c_244, if_pos c_245]
        rw [hE]
        exact ih (i + 1) ((F_readThought f n rs a).1) ((F_readThought f n rs a).2) (by omega) (ok_readThought hn hA) _ _ (kW.sub hw [0, 1, 2, 3, 4, 5, 6, 7, 8, 9, 10] rfl rfl) _ (lv_sub hl [0, 2, 3] rfl)

def F_readAbbey (f : Nat → Int32) (n : Nat) (a : aAS) (t5 : Int32) (t6 : Int64) : Int32 × rRS × aAS :=
  (F_rab f n 1000 (rs0 f n t5 t6) (F_clear a))
set_option maxHeartbeats 4000000 in
set_option maxRecDepth 100000 in
theorem c_readAbbey (γ : kΓ) (l : Launch) (rr : Nat) (rl : Nat) (ab : Nat) (mn : Int32) (h : Nat) (hg : Nat) (n : Nat) (f : Nat → Int32) (a0 : Nat) (a1 : Nat) (a2 : Nat) (a3 : Nat) (a4 : Nat) (a5 : Nat) (a6 : Nat) (a7 : Nat) (a : aAS) (fa : Int32) (ab9 : Nat) (t2 : Int32) (tb : Int32) (t4 : Int32) (t5 : Int32) (t6 : Int64) (t7 : Nat) (hn : n ≤ 1000) (hok : ∀ k, k < n → kok (f k) = true) (hA : aOK a) : kM γ l yX5_readAbbey cX5_readAbbey 4 ((some .int)) ({ frames := 40, cells := 0, slots := 0, locals := 966 } : Room) [.ref rr, .ref ab] ([(rr, .inr (5, [.ref h, .ref rl, .ref ab9, .int mn, .int fa])), (h, .inr (8, [.ref hg, .int (nI n), .int t2, .int tb, .int t4, .int t5, .long t6, .ref t7])), (hg, .inl (γ.2.1 2, 1000, .inl f))] ++ (aWd γ ab a0 a1 a2 a3 a4 a5 a6 a7 a)) (fun r w1 => r = some (.int ((F_readAbbey f n a t5 t6).1)) ∧ w1 = ([(rr, .inr (5, [.ref h, .ref rl, .ref ab, .int mn, .int (((F_readAbbey f n a t5 t6).2.1).1)])), (h, .inr (8, [.ref hg, .int 0, .int (nI (ts f n (((F_readAbbey f n a t5 t6).2.1).2.1))), .int (nI (te f n (((F_readAbbey f n a t5 t6).2.1).2.1))), .int (tk f n (((F_readAbbey f n a t5 t6).2.1).2.1)), .int (((F_readAbbey f n a t5 t6).2.1).2.2.1), .long (((F_readAbbey f n a t5 t6).2.1).2.2.2), .ref (γ.2.2.2.2 (tw f n (((F_readAbbey f n a t5 t6).2.1).2.1)))])), (hg, .inl (γ.2.1 2, 1000, .inl f))] ++ (aWd γ ab a0 a1 a2 a3 a4 a5 a6 a7 ((F_readAbbey f n a t5 t6).2.2)))) := by
  refine k_ofW (by decide) (Nat.le_of_ble_eq_true rfl) ?_
  intro p9 e s m below meth c A ls hC hr hlocks hname hw hl
  have hx := hC.1
  have hb := hC.2.1
  have hl : lv_has ls 4 [(0, .ref rr), (1, .ref ab)] := hl
  have hT : (a.2.2.2.2.2.2.2.1) ≤ 8 := hA.1
  have hQ : (a.2.2.2.2.2.2.2.2.1) ≤ 5 := hA.2.1
  have hE9 : (a.2.2.2.2.2.2.2.2.2.2.2.2.2.1) ≤ 1000 := hA.2.2
  refine lv_aload_n hx hb dX5_readAbbey_0 rfl (lv_at hl 1 rfl) ?_
  refine k_V (wr := [(rr, .inr (5, [.ref h, .ref rl, .ref ab9, .int mn, .int fa])), (h, .inr (8, [.ref hg, .int (nI n), .int t2, .int tb, .int t4, .int t5, .long t6, .ref t7])), (hg, .inl (γ.2.1 2, 1000, .inl f))]) 0 gw_451 gw_281 gw_282 gw_13 gw_283 hd_X0_clear hC hw (c_clear γ l ab a0 a1 a2 a3 a4 a5 a6 a7 a hA) ⟨by decide, by decide⟩ ⟨by decide, by decide⟩ hl.1 rfl 3 rfl rfl rfl (Nat.le_of_ble_eq_true rfl) [3, 4, 5, 6, 7, 8, 9, 10] [0, 1, 2] rfl rfl rfl rfl (by decide) dX5_readAbbey_1 (fun r w1 H locs hq hw => ?_)
  obtain ⟨rfl, rfl⟩ := hq
  have hw : kW γ A ([(rr, .inr (5, [.ref h, .ref rl, .ref ab9, .int mn, .int fa])), (h, .inr (8, [.ref hg, .int (nI n), .int t2, .int tb, .int t4, .int t5, .long t6, .ref t7])), (hg, .inl (γ.2.1 2, 1000, .inl f))] ++ (aWd γ ab a0 a1 a2 a3 a4 a5 a6 a7 (F_clear a))) s H locs := hw
  refine W.eq (g2 := F0 m 4 ls []) rfl ?_
  refine lv_aload_n hx hb dX5_readAbbey_4 rfl (lv_at hl 0 rfl) ?_
  refine lv_aload_n hx hb dX5_readAbbey_5 rfl (lv_at hl 1 rfl) ?_
  refine k_V (wr := (aWd γ ab a0 a1 a2 a3 a4 a5 a6 a7 (F_clear a))) 1 gw_452 gw_454 gp_0 gw_14 gw_455 hd_X5_begin hC hw (c_rbegin γ l rr rl ab mn h hg n f fa ab9 t2 tb t4 t5 t6 t7 hn hok) ⟨by decide, by decide⟩ ⟨by decide, by decide⟩ hl.1 rfl 0 rfl rfl rfl (Nat.le_of_ble_eq_true rfl) [0, 1, 2] [3, 4, 5, 6, 7, 8, 9, 10] rfl rfl rfl rfl (by decide) dX5_readAbbey_6 (fun r w1 H locs hq hw => ?_)
  obtain ⟨rfl, rfl⟩ := hq
  have hw : kW γ A ((aWd γ ab a0 a1 a2 a3 a4 a5 a6 a7 (F_clear a)) ++ [(rr, .inr (5, [.ref h, .ref rl, .ref ab, .int mn, .int ((rs0 f n t5 t6).1)]))] ++ (tWd γ h hg n f ((rs0 f n t5 t6).2.1) ((rs0 f n t5 t6).2.2.1) ((rs0 f n t5 t6).2.2.2))) s H locs := hw
  refine W.eq (g2 := F0 m 9 ls []) rfl ?_
  refine lv_iconst (v := 0) hx hb dX5_readAbbey_9 (by decide) ?_
  refine lv_istore_n (lv' := [(2, .int 0), (0, .ref rr), (1, .ref ab)]) hx hb dX5_readAbbey_10 rfl hl (by decide) rfl (fun ls hl => ?_)
  have hE : (F_readAbbey f n a t5 t6) = (F_rab f n 1000 (rs0 f n t5 t6) (F_clear a)) := by unfold F_readAbbey; rfl
  rw [hE]
  exact lp_rab rr rl ab mn h hg n f a0 a1 a2 a3 a4 a5 a6 a7 hn hok hC hr hlocks 1000 0 (rs0 f n t5 t6) (F_clear a) rfl ok_clear _ _ (kW.sub hw [8, 9, 10, 0, 1, 2, 3, 4, 5, 6, 7] rfl rfl) _ (lv_sub hl [0, 1, 2] rfl)


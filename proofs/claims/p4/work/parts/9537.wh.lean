theorem dX5_readLaw_0 : decode cX5_readLaw 0 = .ok (.aload_n 0, 1) := by decide +kernel
theorem dX5_readLaw_1 : decode cX5_readLaw 1 = .ok (.aload_n 1, 1) := by decide +kernel
theorem dX5_readLaw_2 : decode cX5_readLaw 2 = .ok (.invokevirtual 180, 3) := by decide +kernel
theorem dX5_readLaw_5 : decode cX5_readLaw 5 = .ok (.aload_n 0, 1) := by decide +kernel
theorem dX5_readLaw_6 : decode cX5_readLaw 6 = .ok (.getfield 19, 3) := by decide +kernel
theorem dX5_readLaw_9 : decode cX5_readLaw 9 = .ok (.getfield 192, 3) := by decide +kernel
theorem dX5_readLaw_12 : decode cX5_readLaw 12 = .ok (.istore_n 2, 1) := by decide +kernel
theorem dX5_readLaw_13 : decode cX5_readLaw 13 = .ok (.aload_n 0, 1) := by decide +kernel
theorem dX5_readLaw_14 : decode cX5_readLaw 14 = .ok (.iconst 0, 1) := by decide +kernel
theorem dX5_readLaw_15 : decode cX5_readLaw 15 = .ok (.iconst 0, 1) := by decide +kernel
theorem dX5_readLaw_16 : decode cX5_readLaw 16 = .ok (.invokevirtual 195, 3) := by decide +kernel
theorem dX5_readLaw_19 : decode cX5_readLaw 19 = .ok (.aload_n 0, 1) := by decide +kernel
theorem dX5_readLaw_20 : decode cX5_readLaw 20 = .ok (.bipush 59, 2) := by decide +kernel
theorem dX5_readLaw_22 : decode cX5_readLaw 22 = .ok (.invokevirtual 145, 3) := by decide +kernel
theorem dX5_readLaw_25 : decode cX5_readLaw 25 = .ok (.aload_n 1, 1) := by decide +kernel
theorem dX5_readLaw_26 : decode cX5_readLaw 26 = .ok (.getstatic 75, 3) := by decide +kernel
theorem dX5_readLaw_29 : decode cX5_readLaw 29 = .ok (.if_acmp .ne 28, 3) := by decide +kernel
theorem dX5_readLaw_32 : decode cX5_readLaw 32 = .ok (.aload_n 0, 1) := by decide +kernel
theorem dX5_readLaw_33 : decode cX5_readLaw 33 = .ok (.getfield 19, 3) := by decide +kernel
theorem dX5_readLaw_36 : decode cX5_readLaw 36 = .ok (.iload_n 2, 1) := by decide +kernel
theorem dX5_readLaw_37 : decode cX5_readLaw 37 = .ok (.putfield 198, 3) := by decide +kernel
theorem dX5_readLaw_40 : decode cX5_readLaw 40 = .ok (.aload_n 0, 1) := by decide +kernel
theorem dX5_readLaw_41 : decode cX5_readLaw 41 = .ok (.getfield 19, 3) := by decide +kernel
theorem dX5_readLaw_44 : decode cX5_readLaw 44 = .ok (.aload_n 0, 1) := by decide +kernel
theorem dX5_readLaw_45 : decode cX5_readLaw 45 = .ok (.getfield 19, 3) := by decide +kernel
theorem dX5_readLaw_48 : decode cX5_readLaw 48 = .ok (.getfield 192, 3) := by decide +kernel
theorem dX5_readLaw_51 : decode cX5_readLaw 51 = .ok (.putfield 201, 3) := by decide +kernel
theorem dX5_readLaw_54 : decode cX5_readLaw 54 = .ok (.goto 25, 3) := by decide +kernel
theorem dX5_readLaw_57 : decode cX5_readLaw 57 = .ok (.aload_n 0, 1) := by decide +kernel
theorem dX5_readLaw_58 : decode cX5_readLaw 58 = .ok (.getfield 19, 3) := by decide +kernel
theorem dX5_readLaw_61 : decode cX5_readLaw 61 = .ok (.iload_n 2, 1) := by decide +kernel
theorem dX5_readLaw_62 : decode cX5_readLaw 62 = .ok (.putfield 204, 3) := by decide +kernel
theorem dX5_readLaw_65 : decode cX5_readLaw 65 = .ok (.aload_n 0, 1) := by decide +kernel
theorem dX5_readLaw_66 : decode cX5_readLaw 66 = .ok (.getfield 19, 3) := by decide +kernel
theorem dX5_readLaw_69 : decode cX5_readLaw 69 = .ok (.aload_n 0, 1) := by decide +kernel
theorem dX5_readLaw_70 : decode cX5_readLaw 70 = .ok (.getfield 19, 3) := by decide +kernel
theorem dX5_readLaw_73 : decode cX5_readLaw 73 = .ok (.getfield 192, 3) := by decide +kernel
theorem dX5_readLaw_76 : decode cX5_readLaw 76 = .ok (.putfield 207, 3) := by decide +kernel
theorem dX5_readLaw_79 : decode cX5_readLaw 79 = .ok (.return_, 1) := by decide +kernel
theorem dX8_begin_0 : decode cX8_begin 0 = .ok (.aload_n 0, 1) := by decide +kernel
theorem dX8_begin_1 : decode cX8_begin 1 = .ok (.iconst 0, 1) := by decide +kernel
theorem dX8_begin_2 : decode cX8_begin 2 = .ok (.putfield 28, 3) := by decide +kernel
theorem dX8_begin_5 : decode cX8_begin 5 = .ok (.aload_n 0, 1) := by decide +kernel
theorem dX8_begin_6 : decode cX8_begin 6 = .ok (.invokevirtual 31, 3) := by decide +kernel
theorem dX8_begin_9 : decode cX8_begin 9 = .ok (.return_, 1) := by decide +kernel
theorem dX5_begin_0 : decode cX5_begin 0 = .ok (.aload_n 0, 1) := by decide +kernel
theorem dX5_begin_1 : decode cX5_begin 1 = .ok (.aload_n 1, 1) := by decide +kernel
theorem dX5_begin_2 : decode cX5_begin 2 = .ok (.putfield 19, 3) := by decide +kernel
theorem dX5_begin_5 : decode cX5_begin 5 = .ok (.aload_n 0, 1) := by decide +kernel
theorem dX5_begin_6 : decode cX5_begin 6 = .ok (.iconst 0, 1) := by decide +kernel
theorem dX5_begin_7 : decode cX5_begin 7 = .ok (.putfield 91, 3) := by decide +kernel
theorem dX5_begin_10 : decode cX5_begin 10 = .ok (.aload_n 0, 1) := by decide +kernel
theorem dX5_begin_11 : decode cX5_begin 11 = .ok (.getfield 15, 3) := by decide +kernel
theorem dX5_begin_14 : decode cX5_begin 14 = .ok (.invokevirtual 114, 3) := by decide +kernel
theorem dX5_begin_17 : decode cX5_begin 17 = .ok (.return_, 1) := by decide +kernel
theorem dX8_empty_0 : decode cX8_empty 0 = .ok (.aload_n 0, 1) := by decide +kernel
theorem dX8_empty_1 : decode cX8_empty 1 = .ok (.iconst 0, 1) := by decide +kernel
theorem dX8_empty_2 : decode cX8_empty 2 = .ok (.putfield 24, 3) := by decide +kernel
theorem dX8_empty_5 : decode cX8_empty 5 = .ok (.return_, 1) := by decide +kernel
def F_readLaw (f : Nat → Int32) (n : Nat) (rs : rRS) (a : aAS) (w : Nat) : rRS × aAS :=
  if w = 10 then ((F_passSign f n ((eE f n (eP f n 5) ((F_passOnce f n rs a w).1) ((F_passOnce f n rs a w).2)).1) 59), ((((eE f n (eP f n 5) ((F_passOnce f n rs a w).1) ((F_passOnce f n rs a w).2)).2).1), (((eE f n (eP f n 5) ((F_passOnce f n rs a w).1) ((F_passOnce f n rs a w).2)).2).2.1), (((eE f n (eP f n 5) ((F_passOnce f n rs a w).1) ((F_passOnce f n rs a w).2)).2).2.2.1), (((eE f n (eP f n 5) ((F_passOnce f n rs a w).1) ((F_passOnce f n rs a w).2)).2).2.2.2.1), (((eE f n (eP f n 5) ((F_passOnce f n rs a w).1) ((F_passOnce f n rs a w).2)).2).2.2.2.2.1), (((eE f n (eP f n 5) ((F_passOnce f n rs a w).1) ((F_passOnce f n rs a w).2)).2).2.2.2.2.2.1), (((eE f n (eP f n 5) ((F_passOnce f n rs a w).1) ((F_passOnce f n rs a w).2)).2).2.2.2.2.2.2.1), (((eE f n (eP f n 5) ((F_passOnce f n rs a w).1) ((F_passOnce f n rs a w).2)).2).2.2.2.2.2.2.2.1), (((eE f n (eP f n 5) ((F_passOnce f n rs a w).1) ((F_passOnce f n rs a w).2)).2).2.2.2.2.2.2.2.2.1), (((eE f n (eP f n 5) ((F_passOnce f n rs a w).1) ((F_passOnce f n rs a w).2)).2).2.2.2.2.2.2.2.2.2.1), (((eE f n (eP f n 5) ((F_passOnce f n rs a w).1) ((F_passOnce f n rs a w).2)).2).2.2.2.2.2.2.2.2.2.2.1), (((eE f n (eP f n 5) ((F_passOnce f n rs a w).1) ((F_passOnce f n rs a w).2)).2).2.2.2.2.2.2.2.2.2.2.2.1), (((eE f n (eP f n 5) ((F_passOnce f n rs a w).1) ((F_passOnce f n rs a w).2)).2).2.2.2.2.2.2.2.2.2.2.2.2.1), (((eE f n (eP f n 5) ((F_passOnce f n rs a w).1) ((F_passOnce f n rs a w).2)).2).2.2.2.2.2.2.2.2.2.2.2.2.2.1), (nI (((F_passOnce f n rs a w).2).2.2.2.2.2.2.2.2.2.2.2.2.2.1)), (nI (((eE f n (eP f n 5) ((F_passOnce f n rs a w).1) ((F_passOnce f n rs a w).2)).2).2.2.2.2.2.2.2.2.2.2.2.2.2.1)), (((eE f n (eP f n 5) ((F_passOnce f n rs a w).1) ((F_passOnce f n rs a w).2)).2).2.2.2.2.2.2.2.2.2.2.2.2.2.2.2.2.1), (((eE f n (eP f n 5) ((F_passOnce f n rs a w).1) ((F_passOnce f n rs a w).2)).2).2.2.2.2.2.2.2.2.2.2.2.2.2.2.2.2.2))) else ((F_passSign f n ((eE f n (eP f n 5) ((F_passOnce f n rs a w).1) ((F_passOnce f n rs a w).2)).1) 59), ((((eE f n (eP f n 5) ((F_passOnce f n rs a w).1) ((F_passOnce f n rs a w).2)).2).1), (((eE f n (eP f n 5) ((F_passOnce f n rs a w).1) ((F_passOnce f n rs a w).2)).2).2.1), (((eE f n (eP f n 5) ((F_passOnce f n rs a w).1) ((F_passOnce f n rs a w).2)).2).2.2.1), (((eE f n (eP f n 5) ((F_passOnce f n rs a w).1) ((F_passOnce f n rs a w).2)).2).2.2.2.1), (((eE f n (eP f n 5) ((F_passOnce f n rs a w).1) ((F_passOnce f n rs a w).2)).2).2.2.2.2.1), (((eE f n (eP f n 5) ((F_passOnce f n rs a w).1) ((F_passOnce f n rs a w).2)).2).2.2.2.2.2.1), (((eE f n (eP f n 5) ((F_passOnce f n rs a w).1) ((F_passOnce f n rs a w).2)).2).2.2.2.2.2.2.1), (((eE f n (eP f n 5) ((F_passOnce f n rs a w).1) ((F_passOnce f n rs a w).2)).2).2.2.2.2.2.2.2.1), (((eE f n (eP f n 5) ((F_passOnce f n rs a w).1) ((F_passOnce f n rs a w).2)).2).2.2.2.2.2.2.2.2.1), (((eE f n (eP f n 5) ((F_passOnce f n rs a w).1) ((F_passOnce f n rs a w).2)).2).2.2.2.2.2.2.2.2.2.1), (((eE f n (eP f n 5) ((F_passOnce f n rs a w).1) ((F_passOnce f n rs a w).2)).2).2.2.2.2.2.2.2.2.2.2.1), (((eE f n (eP f n 5) ((F_passOnce f n rs a w).1) ((F_passOnce f n rs a w).2)).2).2.2.2.2.2.2.2.2.2.2.2.1), (((eE f n (eP f n 5) ((F_passOnce f n rs a w).1) ((F_passOnce f n rs a w).2)).2).2.2.2.2.2.2.2.2.2.2.2.2.1), (((eE f n (eP f n 5) ((F_passOnce f n rs a w).1) ((F_passOnce f n rs a w).2)).2).2.2.2.2.2.2.2.2.2.2.2.2.2.1), (((eE f n (eP f n 5) ((F_passOnce f n rs a w).1) ((F_passOnce f n rs a w).2)).2).2.2.2.2.2.2.2.2.2.2.2.2.2.2.1), (((eE f n (eP f n 5) ((F_passOnce f n rs a w).1) ((F_passOnce f n rs a w).2)).2).2.2.2.2.2.2.2.2.2.2.2.2.2.2.2.1), (nI (((F_passOnce f n rs a w).2).2.2.2.2.2.2.2.2.2.2.2.2.2.1)), (nI (((eE f n (eP f n 5) ((F_passOnce f n rs a w).1) ((F_passOnce f n rs a w).2)).2).2.2.2.2.2.2.2.2.2.2.2.2.2.1))))
set_option maxHeartbeats 4000000 in
set_option maxRecDepth 100000 in
theorem c_readLaw (γ : kΓ) (l : Launch) (rr : Nat) (rl : Nat) (ab : Nat) (mn : Int32) (h : Nat) (hg : Nat) (n : Nat) (rs : rRS) (f : Nat → Int32) (a0 : Nat) (a1 : Nat) (a2 : Nat) (a3 : Nat) (a4 : Nat) (a5 : Nat) (a6 : Nat) (a7 : Nat) (a : aAS) (w : Nat) (hn : n ≤ 1000) (hok : ∀ k, k < n → kok (f k) = true) (hA : aOK a) (hwd : w < 26) : kM γ l yX5_readLaw cX5_readLaw 3 none ({ frames := 39, cells := 0, slots := 0, locals := 944 } : Room) [.ref rr, .ref (γ.2.2.2.2 w)] ([(rr, .inr (5, [.ref h, .ref rl, .ref ab, .int mn, .int (rs.1)]))] ++ (tWd γ h hg n f (rs.2.1) (rs.2.2.1) (rs.2.2.2)) ++ (aWd γ ab a0 a1 a2 a3 a4 a5 a6 a7 a)) (fun r w1 => r = none ∧ w1 = ([(rr, .inr (5, [.ref h, .ref rl, .ref ab, .int mn, .int (((F_readLaw f n rs a w).1).1)]))] ++ (tWd γ h hg n f (((F_readLaw f n rs a w).1).2.1) (((F_readLaw f n rs a w).1).2.2.1) (((F_readLaw f n rs a w).1).2.2.2)) ++ (aWd γ ab a0 a1 a2 a3 a4 a5 a6 a7 ((F_readLaw f n rs a w).2)))) := by
  refine k_ofW (by decide) (Nat.le_of_ble_eq_true rfl) ?_
  intro p9 e s m below meth c A ls hC hr hlocks hname hw hl
  have hx := hC.1
  have hb := hC.2.1
  have hl : lv_has ls 3 [(0, .ref rr), (1, .ref (γ.2.2.2.2 w))] := hl
  have hT : (a.2.2.2.2.2.2.2.1) ≤ 8 := hA.1
  have hQ : (a.2.2.2.2.2.2.2.2.1) ≤ 5 := hA.2.1
  have hE9 : (a.2.2.2.2.2.2.2.2.2.2.2.2.2.1) ≤ 1000 := hA.2.2
  refine lv_aload_n hx hb dX5_readLaw_0 rfl (lv_at hl 0 rfl) ?_
  refine lv_aload_n hx hb dX5_readLaw_1 rfl (lv_at hl 1 rfl) ?_
  refine k_V (wr := []) 1 gw_594 gw_596 gp_16 gw_14 gw_597 hd_X5_passOnce hC hw (c_passOnce γ l rr rl ab mn h hg n rs f a0 a1 a2 a3 a4 a5 a6 a7 a w hn hok hA hwd) ⟨by decide, by decide⟩ ⟨by decide, by decide⟩ hl.1 rfl 0 rfl rfl rfl (Nat.le_of_ble_eq_true rfl) [0, 1, 2, 3, 4, 5, 6, 7, 8, 9, 10] [] rfl rfl rfl rfl (by decide) dX5_readLaw_2 (fun r w1 H locs hq hw => ?_)
  obtain ⟨rfl, rfl⟩ := hq
  have hw : kW γ A ([(rr, .inr (5, [.ref h, .ref rl, .ref ab, .int mn, .int (((F_passOnce f n rs a w).1).1)]))] ++ (tWd γ h hg n f (((F_passOnce f n rs a w).1).2.1) (((F_passOnce f n rs a w).1).2.2.1) (((F_passOnce f n rs a w).1).2.2.2)) ++ (aWd γ ab a0 a1 a2 a3 a4 a5 a6 a7 ((F_passOnce f n rs a w).2))) s H locs := hw
  refine W.eq (g2 := F0 m 5 ls []) rfl ?_
  refine lv_aload_n hx hb dX5_readLaw_5 rfl (lv_at hl 0 rfl) ?_
  refine fg_RX5_19 hC hw 0 rfl rfl dX5_readLaw_6 ?_
  refine fg_RX5_192 hC hw 3 rfl rfl dX5_readLaw_9 ?_
  refine lv_istore_n (lv' := [(2, .int (nI (((F_passOnce f n rs a w).2).2.2.2.2.2.2.2.2.2.2.2.2.2.1))), (0, .ref rr), (1, .ref (γ.2.2.2.2 w))]) hx hb dX5_readLaw_12 rfl hl (by decide) rfl (fun ls hl => ?_)
  refine lv_aload_n hx hb dX5_readLaw_13 rfl (lv_at hl 1 rfl) ?_
  refine lv_iconst (v := 0) hx hb dX5_readLaw_14 (by decide) ?_
  refine lv_iconst (v := 0) hx hb dX5_readLaw_15 (by decide) ?_
  refine k_V (wr := []) 2 gw_606 gw_608 gp_18 gw_14 gw_609 hd_X5_readLevel hC hw (c_rE5 γ l rr rl ab mn h hg n ((F_passOnce f n rs a w).1) f a0 a1 a2 a3 a4 a5 a6 a7 ((F_passOnce f n rs a w).2) hn hok (ok_passOnce hn hA)) ⟨by decide, by decide⟩ ⟨by decide, by decide⟩ hl.1 rfl 0 rfl rfl rfl (Nat.le_of_ble_eq_true rfl) [0, 1, 2, 3, 4, 5, 6, 7, 8, 9, 10] [] rfl rfl rfl rfl (by decide) dX5_readLaw_16 (fun r w1 H locs hq hw => ?_)
  obtain ⟨rfl, rfl⟩ := hq
  have hw : kW γ A ([(rr, .inr (5, [.ref h, .ref rl, .ref ab, .int mn, .int (((eE f n (eP f n 5) ((F_passOnce f n rs a w).1) ((F_passOnce f n rs a w).2)).1).1)]))] ++ (tWd γ h hg n f (((eE f n (eP f n 5) ((F_passOnce f n rs a w).1) ((F_passOnce f n rs a w).2)).1).2.1) (((eE f n (eP f n 5) ((F_passOnce f n rs a w).1) ((F_passOnce f n rs a w).2)).1).2.2.1) (((eE f n (eP f n 5) ((F_passOnce f n rs a w).1) ((F_passOnce f n rs a w).2)).1).2.2.2)) ++ (aWd γ ab a0 a1 a2 a3 a4 a5 a6 a7 ((eE f n (eP f n 5) ((F_passOnce f n rs a w).1) ((F_passOnce f n rs a w).2)).2))) s H locs := hw
  refine W.eq (g2 := F0 m 19 ls []) rfl ?_
  refine lv_aload_n hx hb dX5_readLaw_19 rfl (lv_at hl 1 rfl) ?_
  refine lv_bipush (v := 59) hx hb dX5_readLaw_20 (by decide) ?_
  refine k_V (wr := (aWd γ ab a0 a1 a2 a3 a4 a5 a6 a7 ((eE f n (eP f n 5) ((F_passOnce f n rs a w).1) ((F_passOnce f n rs a w).2)).2))) 1 gw_529 gw_531 gp_10 gw_14 gw_532 hd_X5_passSign hC hw (c_passSign γ l rr rl ab mn h hg n ((eE f n (eP f n 5) ((F_passOnce f n rs a w).1) ((F_passOnce f n rs a w).2)).1) f 59 hn hok) ⟨by decide, by decide⟩ ⟨by decide, by decide⟩ hl.1 rfl 0 rfl rfl rfl (Nat.le_of_ble_eq_true rfl) [0, 1, 2] [3, 4, 5, 6, 7, 8, 9, 10] rfl rfl rfl rfl (by decide) dX5_readLaw_22 (fun r w1 H locs hq hw => ?_)
  obtain ⟨rfl, rfl⟩ := hq
  have hw : kW γ A ((aWd γ ab a0 a1 a2 a3 a4 a5 a6 a7 ((eE f n (eP f n 5) ((F_passOnce f n rs a w).1) ((F_passOnce f n rs a w).2)).2)) ++ [(rr, .inr (5, [.ref h, .ref rl, .ref ab, .int mn, .int ((F_passSign f n ((eE f n (eP f n 5) ((F_passOnce f n rs a w).1) ((F_passOnce f n rs a w).2)).1) 59).1)]))] ++ (tWd γ h hg n f ((F_passSign f n ((eE f n (eP f n 5) ((F_passOnce f n rs a w).1) ((F_passOnce f n rs a w).2)).1) 59).2.1) ((F_passSign f n ((eE f n (eP f n 5) ((F_passOnce f n rs a w).1) ((F_passOnce f n rs a w).2)).1) 59).2.2.1) ((F_passSign f n ((eE f n (eP f n 5) ((F_passOnce f n rs a w).1) ((F_passOnce f n rs a w).2)).1) 59).2.2.2))) s H locs := hw
  refine W.eq (g2 := F0 m 25 ls []) rfl ?_
  refine lv_aload_n hx hb dX5_readLaw_25 rfl (lv_at hl 2 rfl) ?_
  refine k_word hC hw (n := 10) (by decide) gw_598 dX5_readLaw_26 ?_
  refine lv_acmp_ne (rx := some (γ.2.2.2.2 w)) (ry := some (γ.2.2.2.2 10)) (tgt := 57) hx hb dX5_readLaw_29 (by decide) (fun c_234 => ?_) (fun c_234 => ?_)
  · have c_234 : ¬ w = 10 := fun h9 => c_234 ((k_weq hC hwd (by decide)).mpr h9)
    refine lv_aload_n hx hb dX5_readLaw_57 rfl (lv_at hl 1 rfl) ?_
    refine fg_RX5_19 hC hw 8 rfl rfl dX5_readLaw_58 ?_
    refine lv_iload_n hx hb dX5_readLaw_61 rfl (lv_at hl 0 rfl) ?_
    refine fs_RX5_204 hC hw 0 rfl rfl rfl (Nat.le_of_ble_eq_true rfl) dX5_readLaw_62 (fun H locs hw => ?_)
    have hw : kW γ A ((aWd γ ab a0 a1 a2 a3 a4 a5 a6 a7 ((((eE f n (eP f n 5) ((F_passOnce f n rs a w).1) ((F_passOnce f n rs a w).2)).2).1), (((eE f n (eP f n 5) ((F_passOnce f n rs a w).1) ((F_passOnce f n rs a w).2)).2).2.1), (((eE f n (eP f n 5) ((F_passOnce f n rs a w).1) ((F_passOnce f n rs a w).2)).2).2.2.1), (((eE f n (eP f n 5) ((F_passOnce f n rs a w).1) ((F_passOnce f n rs a w).2)).2).2.2.2.1), (((eE f n (eP f n 5) ((F_passOnce f n rs a w).1) ((F_passOnce f n rs a w).2)).2).2.2.2.2.1), (((eE f n (eP f n 5) ((F_passOnce f n rs a w).1) ((F_passOnce f n rs a w).2)).2).2.2.2.2.2.1), (((eE f n (eP f n 5) ((F_passOnce f n rs a w).1) ((F_passOnce f n rs a w).2)).2).2.2.2.2.2.2.1), (((eE f n (eP f n 5) ((F_passOnce f n rs a w).1) ((F_passOnce f n rs a w).2)).2).2.2.2.2.2.2.2.1), (((eE f n (eP f n 5) ((F_passOnce f n rs a w).1) ((F_passOnce f n rs a w).2)).2).2.2.2.2.2.2.2.2.1), (((eE f n (eP f n 5) ((F_passOnce f n rs a w).1) ((F_passOnce f n rs a w).2)).2).2.2.2.2.2.2.2.2.2.1), (((eE f n (eP f n 5) ((F_passOnce f n rs a w).1) ((F_passOnce f n rs a w).2)).2).2.2.2.2.2.2.2.2.2.2.1), (((eE f n (eP f n 5) ((F_passOnce f n rs a w).1) ((F_passOnce f n rs a w).2)).2).2.2.2.2.2.2.2.2.2.2.2.1), (((eE f n (eP f n 5) ((F_passOnce f n rs a w).1) ((F_passOnce f n rs a w).2)).2).2.2.2.2.2.2.2.2.2.2.2.2.1), (((eE f n (eP f n 5) ((F_passOnce f n rs a w).1) ((F_passOnce f n rs a w).2)).2).2.2.2.2.2.2.2.2.2.2.2.2.2.1), (((eE f n (eP f n 5) ((F_passOnce f n rs a w).1) ((F_passOnce f n rs a w).2)).2).2.2.2.2.2.2.2.2.2.2.2.2.2.2.1), (((eE f n (eP f n 5) ((F_passOnce f n rs a w).1) ((F_passOnce f n rs a w).2)).2).2.2.2.2.2.2.2.2.2.2.2.2.2.2.2.1), (nI (((F_passOnce f n rs a w).2).2.2.2.2.2.2.2.2.2.2.2.2.2.1)), (((eE f n (eP f n 5) ((F_passOnce f n rs a w).1) ((F_passOnce f n rs a w).2)).2).2.2.2.2.2.2.2.2.2.2.2.2.2.2.2.2.2))) ++ [(rr, .inr (5, [.ref h, .ref rl, .ref ab, .int mn, .int ((F_passSign f n ((eE f n (eP f n 5) ((F_passOnce f n rs a w).1) ((F_passOnce f n rs a w).2)).1) 59).1)]))] ++ (tWd γ h hg n f ((F_passSign f n ((eE f n (eP f n 5) ((F_passOnce f n rs a w).1) ((F_passOnce f n rs a w).2)).1) 59).2.1) ((F_passSign f n ((eE f n (eP f n 5) ((F_passOnce f n rs a w).1) ((F_passOnce f n rs a w).2)).1) 59).2.2.1) ((F_passSign f n ((eE f n (eP f n 5) ((F_passOnce f n rs a w).1) ((F_passOnce f n rs a w).2)).1) 59).2.2.2))) s H locs := hw
    refine lv_aload_n hx hb dX5_readLaw_65 rfl (lv_at hl 1 rfl) ?_
    refine fg_RX5_19 hC hw 8 rfl rfl dX5_readLaw_66 ?_
    refine lv_aload_n hx hb dX5_readLaw_69 rfl (lv_at hl 1 rfl) ?_
    refine fg_RX5_19 hC hw 8 rfl rfl dX5_readLaw_70 ?_
    refine fg_RX5_192 hC hw 0 rfl rfl dX5_readLaw_73 ?_
    refine fs_RX5_207 hC hw 0 rfl rfl rfl (Nat.le_of_ble_eq_true rfl) dX5_readLaw_76 (fun H locs hw => ?_)
    have hw : kW γ A ((aWd γ ab a0 a1 a2 a3 a4 a5 a6 a7 ((((eE f n (eP f n 5) ((F_passOnce f n rs a w).1) ((F_passOnce f n rs a w).2)).2).1), (((eE f n (eP f n 5) ((F_passOnce f n rs a w).1) ((F_passOnce f n rs a w).2)).2).2.1), (((eE f n (eP f n 5) ((F_passOnce f n rs a w).1) ((F_passOnce f n rs a w).2)).2).2.2.1), (((eE f n (eP f n 5) ((F_passOnce f n rs a w).1) ((F_passOnce f n rs a w).2)).2).2.2.2.1), (((eE f n (eP f n 5) ((F_passOnce f n rs a w).1) ((F_passOnce f n rs a w).2)).2).2.2.2.2.1), (((eE f n (eP f n 5) ((F_passOnce f n rs a w).1) ((F_passOnce f n rs a w).2)).2).2.2.2.2.2.1), (((eE f n (eP f n 5) ((F_passOnce f n rs a w).1) ((F_passOnce f n rs a w).2)).2).2.2.2.2.2.2.1), (((eE f n (eP f n 5) ((F_passOnce f n rs a w).1) ((F_passOnce f n rs a w).2)).2).2.2.2.2.2.2.2.1), (((eE f n (eP f n 5) ((F_passOnce f n rs a w).1) ((F_passOnce f n rs a w).2)).2).2.2.2.2.2.2.2.2.1), (((eE f n (eP f n 5) ((F_passOnce f n rs a w).1) ((F_passOnce f n rs a w).2)).2).2.2.2.2.2.2.2.2.2.1), (((eE f n (eP f n 5) ((F_passOnce f n rs a w).1) ((F_passOnce f n rs a w).2)).2).2.2.2.2.2.2.2.2.2.2.1), (((eE f n (eP f n 5) ((F_passOnce f n rs a w).1) ((F_passOnce f n rs a w).2)).2).2.2.2.2.2.2.2.2.2.2.2.1), (((eE f n (eP f n 5) ((F_passOnce f n rs a w).1) ((F_passOnce f n rs a w).2)).2).2.2.2.2.2.2.2.2.2.2.2.2.1), (((eE f n (eP f n 5) ((F_passOnce f n rs a w).1) ((F_passOnce f n rs a w).2)).2).2.2.2.2.2.2.2.2.2.2.2.2.2.1), (((eE f n (eP f n 5) ((F_passOnce f n rs a w).1) ((F_passOnce f n rs a w).2)).2).2.2.2.2.2.2.2.2.2.2.2.2.2.2.1), (((eE f n (eP f n 5) ((F_passOnce f n rs a w).1) ((F_passOnce f n rs a w).2)).2).2.2.2.2.2.2.2.2.2.2.2.2.2.2.2.1), (nI (((F_passOnce f n rs a w).2).2.2.2.2.2.2.2.2.2.2.2.2.2.1)), (nI (((eE f n (eP f n 5) ((F_passOnce f n rs a w).1) ((F_passOnce f n rs a w).2)).2).2.2.2.2.2.2.2.2.2.2.2.2.2.1)))) ++ [(rr, .inr (5, [.ref h, .ref rl, .ref ab, .int mn, .int ((F_passSign f n ((eE f n (eP f n 5) ((F_passOnce f n rs a w).1) ((F_passOnce f n rs a w).2)).1) 59).1)]))] ++ (tWd γ h hg n f ((F_passSign f n ((eE f n (eP f n 5) ((F_passOnce f n rs a w).1) ((F_passOnce f n rs a w).2)).1) 59).2.1) ((F_passSign f n ((eE f n (eP f n 5) ((F_passOnce f n rs a w).1) ((F_passOnce f n rs a w).2)).1) 59).2.2.1) ((F_passSign f n ((eE f n (eP f n 5) ((F_passOnce f n rs a w).1) ((F_passOnce f n rs a w).2)).1) 59).2.2.2))) s H locs := hw
    have hE : (F_readLaw f n rs a w) = ((F_passSign f n ((eE f n (eP f n 5) ((F_passOnce f n rs a w).1) ((F_passOnce f n rs a w).2)).1) 59), ((((eE f n (eP f n 5) ((F_passOnce f n rs a w).1) ((F_passOnce f n rs a w).2)).2).1), (((eE f n (eP f n 5) ((F_passOnce f n rs a w).1) ((F_passOnce f n rs a w).2)).2).2.1), (((eE f n (eP f n 5) ((F_passOnce f n rs a w).1) ((F_passOnce f n rs a w).2)).2).2.2.1), (((eE f n (eP f n 5) ((F_passOnce f n rs a w).1) ((F_passOnce f n rs a w).2)).2).2.2.2.1), (((eE f n (eP f n 5) ((F_passOnce f n rs a w).1) ((F_passOnce f n rs a w).2)).2).2.2.2.2.1), (((eE f n (eP f n 5) ((F_passOnce f n rs a w).1) ((F_passOnce f n rs a w).2)).2).2.2.2.2.2.1), (((eE f n (eP f n 5) ((F_passOnce f n rs a w).1) ((F_passOnce f n rs a w).2)).2).2.2.2.2.2.2.1), (((eE f n (eP f n 5) ((F_passOnce f n rs a w).1) ((F_passOnce f n rs a w).2)).2).2.2.2.2.2.2.2.1), (((eE f n (eP f n 5) ((F_passOnce f n rs a w).1) ((F_passOnce f n rs a w).2)).2).2.2.2.2.2.2.2.2.1), (((eE f n (eP f n 5) ((F_passOnce f n rs a w).1) ((F_passOnce f n rs a w).2)).2).2.2.2.2.2.2.2.2.2.1), (((eE f n (eP f n 5) ((F_passOnce f n rs a w).1) ((F_passOnce f n rs a w).2)).2).2.2.2.2.2.2.2.2.2.2.1), (((eE f n (eP f n 5) ((F_passOnce f n rs a w).1) ((F_passOnce f n rs a w).2)).2).2.2.2.2.2.2.2.2.2.2.2.1), (((eE f n (eP f n 5) ((F_passOnce f n rs a w).1) ((F_passOnce f n rs a w).2)).2).2.2.2.2.2.2.2.2.2.2.2.2.1), (((eE f n (eP f n 5) ((F_passOnce f n rs a w).1) ((F_passOnce f n rs a w).2)).2).2.2.2.2.2.2.2.2.2.2.2.2.2.1), (((eE f n (eP f n 5) ((F_passOnce f n rs a w).1) ((F_passOnce f n rs a w).2)).2).2.2.2.2.2.2.2.2.2.2.2.2.2.2.1), (((eE f n (eP f n 5) ((F_passOnce f n rs a w).1) ((F_passOnce f n rs a w).2)).2).2.2.2.2.2.2.2.2.2.2.2.2.2.2.2.1), (nI (((F_passOnce f n rs a w).2).2.2.2.2.2.2.2.2.2.2.2.2.2.1)), (nI (((eE f n (eP f n 5) ((F_passOnce f n rs a w).1) ((F_passOnce f n rs a w).2)).2).2.2.2.2.2.2.2.2.2.2.2.2.2.1)))) := by unfold F_readLaw; rw [if_neg c_234]
    have hw : kW γ A ((aWd γ ab a0 a1 a2 a3 a4 a5 a6 a7 ((F_readLaw f n rs a w).2)) ++ [(rr, .inr (5, [.ref h, .ref rl, .ref ab, .int mn, .int (((F_readLaw f n rs a w).1).1)]))] ++ (tWd γ h hg n f (((F_readLaw f n rs a w).1).2.1) (((F_readLaw f n rs a w).1).2.2.1) (((F_readLaw f n rs a w).1).2.2.2))) s H locs := by first | (rw [hE]; exact hw) | exact hw
    exact k_vret hC hr hlocks hw [8, 9, 10, 0, 1, 2, 3, 4, 5, 6, 7] rfl rfl ⟨rfl, rfl⟩ (by decide) (by decide) dX5_readLaw_79
  · have c_234 : w = 10 := (k_weq hC hwd (by decide)).mp c_234
    refine lv_aload_n hx hb dX5_readLaw_32 rfl (lv_at hl 1 rfl) ?_
    refine fg_RX5_19 hC hw 8 rfl rfl dX5_readLaw_33 ?_
    refine lv_iload_n hx hb dX5_readLaw_36 rfl (lv_at hl 0 rfl) ?_
    refine fs_RX5_198 hC hw 0 rfl rfl rfl (Nat.le_of_ble_eq_true rfl) dX5_readLaw_37 (fun H locs hw => ?_)
    have hw : kW γ A ((aWd γ ab a0 a1 a2 a3 a4 a5 a6 a7 ((((eE f n (eP f n 5) ((F_passOnce f n rs a w).1) ((F_passOnce f n rs a w).2)).2).1), (((eE f n (eP f n 5) ((F_passOnce f n rs a w).1) ((F_passOnce f n rs a w).2)).2).2.1), (((eE f n (eP f n 5) ((F_passOnce f n rs a w).1) ((F_passOnce f n rs a w).2)).2).2.2.1), (((eE f n (eP f n 5) ((F_passOnce f n rs a w).1) ((F_passOnce f n rs a w).2)).2).2.2.2.1), (((eE f n (eP f n 5) ((F_passOnce f n rs a w).1) ((F_passOnce f n rs a w).2)).2).2.2.2.2.1), (((eE f n (eP f n 5) ((F_passOnce f n rs a w).1) ((F_passOnce f n rs a w).2)).2).2.2.2.2.2.1), (((eE f n (eP f n 5) ((F_passOnce f n rs a w).1) ((F_passOnce f n rs a w).2)).2).2.2.2.2.2.2.1), (((eE f n (eP f n 5) ((F_passOnce f n rs a w).1) ((F_passOnce f n rs a w).2)).2).2.2.2.2.2.2.2.1), (((eE f n (eP f n 5) ((F_passOnce f n rs a w).1) ((F_passOnce f n rs a w).2)).2).2.2.2.2.2.2.2.2.1), (((eE f n (eP f n 5) ((F_passOnce f n rs a w).1) ((F_passOnce f n rs a w).2)).2).2.2.2.2.2.2.2.2.2.1), (((eE f n (eP f n 5) ((F_passOnce f n rs a w).1) ((F_passOnce f n rs a w).2)).2).2.2.2.2.2.2.2.2.2.2.1), (((eE f n (eP f n 5) ((F_passOnce f n rs a w).1) ((F_passOnce f n rs a w).2)).2).2.2.2.2.2.2.2.2.2.2.2.1), (((eE f n (eP f n 5) ((F_passOnce f n rs a w).1) ((F_passOnce f n rs a w).2)).2).2.2.2.2.2.2.2.2.2.2.2.2.1), (((eE f n (eP f n 5) ((F_passOnce f n rs a w).1) ((F_passOnce f n rs a w).2)).2).2.2.2.2.2.2.2.2.2.2.2.2.2.1), (nI (((F_passOnce f n rs a w).2).2.2.2.2.2.2.2.2.2.2.2.2.2.1)), (((eE f n (eP f n 5) ((F_passOnce f n rs a w).1) ((F_passOnce f n rs a w).2)).2).2.2.2.2.2.2.2.2.2.2.2.2.2.2.2.1), (((eE f n (eP f n 5) ((F_passOnce f n rs a w).1) ((F_passOnce f n rs a w).2)).2).2.2.2.2.2.2.2.2.2.2.2.2.2.2.2.2.1), (((eE f n (eP f n 5) ((F_passOnce f n rs a w).1) ((F_passOnce f n rs a w).2)).2).2.2.2.2.2.2.2.2.2.2.2.2.2.2.2.2.2))) ++ [(rr, .inr (5, [.ref h, .ref rl, .ref ab, .int mn, .int ((F_passSign f n ((eE f n (eP f n 5) ((F_passOnce f n rs a w).1) ((F_passOnce f n rs a w).2)).1) 59).1)]))] ++ (tWd γ h hg n f ((F_passSign f n ((eE f n (eP f n 5) ((F_passOnce f n rs a w).1) ((F_passOnce f n rs a w).2)).1) 59).2.1) ((F_passSign f n ((eE f n (eP f n 5) ((F_passOnce f n rs a w).1) ((F_passOnce f n rs a w).2)).1) 59).2.2.1) ((F_passSign f n ((eE f n (eP f n 5) ((F_passOnce f n rs a w).1) ((F_passOnce f n rs a w).2)).1) 59).2.2.2))) s H locs := hw
    refine lv_aload_n hx hb dX5_readLaw_40 rfl (lv_at hl 1 rfl) ?_
    refine fg_RX5_19 hC hw 8 rfl rfl dX5_readLaw_41 ?_
    refine lv_aload_n hx hb dX5_readLaw_44 rfl (lv_at hl 1 rfl) ?_
    refine fg_RX5_19 hC hw 8 rfl rfl dX5_readLaw_45 ?_
    refine fg_RX5_192 hC hw 0 rfl rfl dX5_readLaw_48 ?_
    refine fs_RX5_201 hC hw 0 rfl rfl rfl (Nat.le_of_ble_eq_true rfl) dX5_readLaw_51 (fun H locs hw => ?_)
    have hw : kW γ A ((aWd γ ab a0 a1 a2 a3 a4 a5 a6 a7 ((((eE f n (eP f n 5) ((F_passOnce f n rs a w).1) ((F_passOnce f n rs a w).2)).2).1), (((eE f n (eP f n 5) ((F_passOnce f n rs a w).1) ((F_passOnce f n rs a w).2)).2).2.1), (((eE f n (eP f n 5) ((F_passOnce f n rs a w).1) ((F_passOnce f n rs a w).2)).2).2.2.1), (((eE f n (eP f n 5) ((F_passOnce f n rs a w).1) ((F_passOnce f n rs a w).2)).2).2.2.2.1), (((eE f n (eP f n 5) ((F_passOnce f n rs a w).1) ((F_passOnce f n rs a w).2)).2).2.2.2.2.1), (((eE f n (eP f n 5) ((F_passOnce f n rs a w).1) ((F_passOnce f n rs a w).2)).2).2.2.2.2.2.1), (((eE f n (eP f n 5) ((F_passOnce f n rs a w).1) ((F_passOnce f n rs a w).2)).2).2.2.2.2.2.2.1), (((eE f n (eP f n 5) ((F_passOnce f n rs a w).1) ((F_passOnce f n rs a w).2)).2).2.2.2.2.2.2.2.1), (((eE f n (eP f n 5) ((F_passOnce f n rs a w).1) ((F_passOnce f n rs a w).2)).2).2.2.2.2.2.2.2.2.1), (((eE f n (eP f n 5) ((F_passOnce f n rs a w).1) ((F_passOnce f n rs a w).2)).2).2.2.2.2.2.2.2.2.2.1), (((eE f n (eP f n 5) ((F_passOnce f n rs a w).1) ((F_passOnce f n rs a w).2)).2).2.2.2.2.2.2.2.2.2.2.1), (((eE f n (eP f n 5) ((F_passOnce f n rs a w).1) ((F_passOnce f n rs a w).2)).2).2.2.2.2.2.2.2.2.2.2.2.1), (((eE f n (eP f n 5) ((F_passOnce f n rs a w).1) ((F_passOnce f n rs a w).2)).2).2.2.2.2.2.2.2.2.2.2.2.2.1), (((eE f n (eP f n 5) ((F_passOnce f n rs a w).1) ((F_passOnce f n rs a w).2)).2).2.2.2.2.2.2.2.2.2.2.2.2.2.1), (nI (((F_passOnce f n rs a w).2).2.2.2.2.2.2.2.2.2.2.2.2.2.1)), (nI (((eE f n (eP f n 5) ((F_passOnce f n rs a w).1) ((F_passOnce f n rs a w).2)).2).2.2.2.2.2.2.2.2.2.2.2.2.2.1)), (((eE f n (eP f n 5) ((F_passOnce f n rs a w).1) ((F_passOnce f n rs a w).2)).2).2.2.2.2.2.2.2.2.2.2.2.2.2.2.2.2.1), (((eE f n (eP f n 5) ((F_passOnce f n rs a w).1) ((F_passOnce f n rs a w).2)).2).2.2.2.2.2.2.2.2.2.2.2.2.2.2.2.2.2))) ++ [(rr, .inr (5, [.ref h, .ref rl, .ref ab, .int mn, .int ((F_passSign f n ((eE f n (eP f n 5) ((F_passOnce f n rs a w).1) ((F_passOnce f n rs a w).2)).1) 59).1)]))] ++ (tWd γ h hg n f ((F_passSign f n ((eE f n (eP f n 5) ((F_passOnce f n rs a w).1) ((F_passOnce f n rs a w).2)).1) 59).2.1) ((F_passSign f n ((eE f n (eP f n 5) ((F_passOnce f n rs a w).1) ((F_passOnce f n rs a w).2)).1) 59).2.2.1) ((F_passSign f n ((eE f n (eP f n 5) ((F_passOnce f n rs a w).1) ((F_passOnce f n rs a w).2)).1) 59).2.2.2))) s H locs := hw
    refine lv_goto (tgt := 79) hx hb dX5_readLaw_54 (by decide) ?_
    have hE : (F_readLaw f n rs a w) = ((F_passSign f n ((eE f n (eP f n 5) ((F_passOnce f n rs a w).1) ((F_passOnce f n rs a w).2)).1) 59), ((((eE f n (eP f n 5) ((F_passOnce f n rs a w).1) ((F_passOnce f n rs a w).2)).2).1), (((eE f n (eP f n 5) ((F_passOnce f n rs a w).1) ((F_passOnce f n rs a w).2)).2).2.1), (((eE f n (eP f n 5) ((F_passOnce f n rs a w).1) ((F_passOnce f n rs a w).2)).2).2.2.1), (((eE f n (eP f n 5) ((F_passOnce f n rs a w).1) ((F_passOnce f n rs a w).2)).2).2.2.2.1), (((eE f n (eP f n 5) ((F_passOnce f n rs a w).1) ((F_passOnce f n rs a w).2)).2).2.2.2.2.1), (((eE f n (eP f n 5) ((F_passOnce f n rs a w).1) ((F_passOnce f n rs a w).2)).2).2.2.2.2.2.1), (((eE f n (eP f n 5) ((F_passOnce f n rs a w).1) ((F_passOnce f n rs a w).2)).2).2.2.2.2.2.2.1), (((eE f n (eP f n 5) ((F_passOnce f n rs a w).1) ((F_passOnce f n rs a w).2)).2).2.2.2.2.2.2.2.1), (((eE f n (eP f n 5) ((F_passOnce f n rs a w).1) ((F_passOnce f n rs a w).2)).2).2.2.2.2.2.2.2.2.1), (((eE f n (eP f n 5) ((F_passOnce f n rs a w).1) ((F_passOnce f n rs a w).2)).2).2.2.2.2.2.2.2.2.2.1), (((eE f n (eP f n 5) ((F_passOnce f n rs a w).1) ((F_passOnce f n rs a w).2)).2).2.2.2.2.2.2.2.2.2.2.1), (((eE f n (eP f n 5) ((F_passOnce f n rs a w).1) ((F_passOnce f n rs a w).2)).2).2.2.2.2.2.2.2.2.2.2.2.1), (((eE f n (eP f n 5) ((F_passOnce f n rs a w).1) ((F_passOnce f n rs a w).2)).2).2.2.2.2.2.2.2.2.2.2.2.2.1), (((eE f n (eP f n 5) ((F_passOnce f n rs a w).1) ((F_passOnce f n rs a w).2)).2).2.2.2.2.2.2.2.2.2.2.2.2.2.1), (nI (((F_passOnce f n rs a w).2).2.2.2.2.2.2.2.2.2.2.2.2.2.1)), (nI (((eE f n (eP f n 5) ((F_passOnce f n rs a w).1) ((F_passOnce f n rs a w).2)).2).2.2.2.2.2.2.2.2.2.2.2.2.2.1)), (((eE f n (eP f n 5) ((F_passOnce f n rs a w).1) ((F_passOnce f n rs a w).2)).2).2.2.2.2.2.2.2.2.2.2.2.2.2.2.2.2.1), (((eE f n (eP f n 5) ((F_passOnce f n rs a w).1) ((F_passOnce f n rs a w).2)).2).2.2.2.2.2.2.2.2.2.2.2.2.2.2.2.2.2))) := by unfold F_readLaw; rw [if_pos c_234]
    have hw : kW γ A ((aWd γ ab a0 a1 a2 a3 a4 a5 a6 a7 ((F_readLaw f n rs a w).2)) ++ [(rr, .inr (5, [.ref h, .ref rl, .ref ab, .int mn, .int (((F_readLaw f n rs a w).1).1)]))] ++ (tWd γ h hg n f (((F_readLaw f n rs a w).1).2.1) (((F_readLaw f n rs a w).1).2.2.1) (((F_readLaw f n rs a w).1).2.2.2))) s H locs := by first | (rw [hE]; exact hw) | exact hw
    exact k_vret hC hr hlocks hw [8, 9, 10, 0, 1, 2, 3, 4, 5, 6, 7] rfl rfl ⟨rfl, rfl⟩ (by decide) (by decide) dX5_readLaw_79

def F_clear (a : aAS) : aAS :=
  ((a.1), (a.2.1), (a.2.2.1), (a.2.2.2.1), (a.2.2.2.2.1), (a.2.2.2.2.2.1), (a.2.2.2.2.2.2.1), 0, 0, 10, 10, 3, 0, 0, (a.2.2.2.2.2.2.2.2.2.2.2.2.2.2.1), (a.2.2.2.2.2.2.2.2.2.2.2.2.2.2.2.1), (a.2.2.2.2.2.2.2.2.2.2.2.2.2.2.2.2.1), (a.2.2.2.2.2.2.2.2.2.2.2.2.2.2.2.2.2))
set_option maxHeartbeats 4000000 in
set_option maxRecDepth 100000 in
theorem c_clear (γ : kΓ) (l : Launch) (ab : Nat) (a0 : Nat) (a1 : Nat) (a2 : Nat) (a3 : Nat) (a4 : Nat) (a5 : Nat) (a6 : Nat) (a7 : Nat) (a : aAS) (hA : aOK a) : kM γ l yX0_clear cX0_clear 1 none ({ frames := 0, cells := 0, slots := 0, locals := 0 } : Room) [.ref ab] (aWd γ ab a0 a1 a2 a3 a4 a5 a6 a7 a) (fun r w1 => r = none ∧ w1 = (aWd γ ab a0 a1 a2 a3 a4 a5 a6 a7 (F_clear a))) := by
  refine k_ofW (by decide) (Nat.le_of_ble_eq_true rfl) ?_
  intro p9 e s m below meth c A ls hC hr hlocks hname hw hl
  have hx := hC.1
  have hb := hC.2.1
  have hl : lv_has ls 1 [(0, .ref ab)] := hl
  have hT : (a.2.2.2.2.2.2.2.1) ≤ 8 := hA.1
  have hQ : (a.2.2.2.2.2.2.2.2.1) ≤ 5 := hA.2.1
  have hE9 : (a.2.2.2.2.2.2.2.2.2.2.2.2.2.1) ≤ 1000 := hA.2.2
  refine lv_aload_n hx hb dX0_clear_0 rfl (lv_at hl 0 rfl) ?_
  refine lv_iconst (v := 0) hx hb dX0_clear_1 (by decide) ?_
  refine fs_RX0_40 hC hw 0 rfl rfl rfl (Nat.le_of_ble_eq_true rfl) dX0_clear_2 (fun H locs hw => ?_)
  have hw : kW γ A (aWd γ ab a0 a1 a2 a3 a4 a5 a6 a7 ((a.1), (a.2.1), (a.2.2.1), (a.2.2.2.1), (a.2.2.2.2.1), (a.2.2.2.2.2.1), (a.2.2.2.2.2.2.1), 0, (a.2.2.2.2.2.2.2.2.1), (a.2.2.2.2.2.2.2.2.2.1), (a.2.2.2.2.2.2.2.2.2.2.1), (a.2.2.2.2.2.2.2.2.2.2.2.1), (a.2.2.2.2.2.2.2.2.2.2.2.2.1), (a.2.2.2.2.2.2.2.2.2.2.2.2.2.1), (a.2.2.2.2.2.2.2.2.2.2.2.2.2.2.1), (a.2.2.2.2.2.2.2.2.2.2.2.2.2.2.2.1), (a.2.2.2.2.2.2.2.2.2.2.2.2.2.2.2.2.1), (a.2.2.2.2.2.2.2.2.2.2.2.2.2.2.2.2.2))) s H locs := hw
  refine lv_aload_n hx hb dX0_clear_5 rfl (lv_at hl 0 rfl) ?_
  refine lv_iconst (v := 0) hx hb dX0_clear_6 (by decide) ?_
  refine fs_RX0_44 hC hw 0 rfl rfl rfl (Nat.le_of_ble_eq_true rfl) dX0_clear_7 (fun H locs hw => ?_)
  have hw : kW γ A (aWd γ ab a0 a1 a2 a3 a4 a5 a6 a7 ((a.1), (a.2.1), (a.2.2.1), (a.2.2.2.1), (a.2.2.2.2.1), (a.2.2.2.2.2.1), (a.2.2.2.2.2.2.1), 0, 0, (a.2.2.2.2.2.2.2.2.2.1), (a.2.2.2.2.2.2.2.2.2.2.1), (a.2.2.2.2.2.2.2.2.2.2.2.1), (a.2.2.2.2.2.2.2.2.2.2.2.2.1), (a.2.2.2.2.2.2.2.2.2.2.2.2.2.1), (a.2.2.2.2.2.2.2.2.2.2.2.2.2.2.1), (a.2.2.2.2.2.2.2.2.2.2.2.2.2.2.2.1), (a.2.2.2.2.2.2.2.2.2.2.2.2.2.2.2.2.1), (a.2.2.2.2.2.2.2.2.2.2.2.2.2.2.2.2.2))) s H locs := hw
  refine lv_aload_n hx hb dX0_clear_10 rfl (lv_at hl 0 rfl) ?_
  refine lv_bipush (v := 10) hx hb dX0_clear_11 (by decide) ?_
  refine fs_RX0_47 hC hw 0 rfl rfl rfl (Nat.le_of_ble_eq_true rfl) dX0_clear_13 (fun H locs hw => ?_)
  have hw : kW γ A (aWd γ ab a0 a1 a2 a3 a4 a5 a6 a7 ((a.1), (a.2.1), (a.2.2.1), (a.2.2.2.1), (a.2.2.2.2.1), (a.2.2.2.2.2.1), (a.2.2.2.2.2.2.1), 0, 0, 10, (a.2.2.2.2.2.2.2.2.2.2.1), (a.2.2.2.2.2.2.2.2.2.2.2.1), (a.2.2.2.2.2.2.2.2.2.2.2.2.1), (a.2.2.2.2.2.2.2.2.2.2.2.2.2.1), (a.2.2.2.2.2.2.2.2.2.2.2.2.2.2.1), (a.2.2.2.2.2.2.2.2.2.2.2.2.2.2.2.1), (a.2.2.2.2.2.2.2.2.2.2.2.2.2.2.2.2.1), (a.2.2.2.2.2.2.2.2.2.2.2.2.2.2.2.2.2))) s H locs := hw
  refine lv_aload_n hx hb dX0_clear_16 rfl (lv_at hl 0 rfl) ?_
  refine lv_bipush (v := 10) hx hb dX0_clear_17 (by decide) ?_
  refine fs_RX0_50 hC hw 0 rfl rfl rfl (Nat.le_of_ble_eq_true rfl) dX0_clear_19 (fun H locs hw => ?_)
  have hw : kW γ A (aWd γ ab a0 a1 a2 a3 a4 a5 a6 a7 ((a.1), (a.2.1), (a.2.2.1), (a.2.2.2.1), (a.2.2.2.2.1), (a.2.2.2.2.2.1), (a.2.2.2.2.2.2.1), 0, 0, 10, 10, (a.2.2.2.2.2.2.2.2.2.2.2.1), (a.2.2.2.2.2.2.2.2.2.2.2.2.1), (a.2.2.2.2.2.2.2.2.2.2.2.2.2.1), (a.2.2.2.2.2.2.2.2.2.2.2.2.2.2.1), (a.2.2.2.2.2.2.2.2.2.2.2.2.2.2.2.1), (a.2.2.2.2.2.2.2.2.2.2.2.2.2.2.2.2.1), (a.2.2.2.2.2.2.2.2.2.2.2.2.2.2.2.2.2))) s H locs := hw
  refine lv_aload_n hx hb dX0_clear_22 rfl (lv_at hl 0 rfl) ?_
  refine lv_iconst (v := 3) hx hb dX0_clear_23 (by decide) ?_
  refine fs_RX0_53 hC hw 0 rfl rfl rfl (Nat.le_of_ble_eq_true rfl) dX0_clear_24 (fun H locs hw => ?_)
  have hw : kW γ A (aWd γ ab a0 a1 a2 a3 a4 a5 a6 a7 ((a.1), (a.2.1), (a.2.2.1), (a.2.2.2.1), (a.2.2.2.2.1), (a.2.2.2.2.2.1), (a.2.2.2.2.2.2.1), 0, 0, 10, 10, 3, (a.2.2.2.2.2.2.2.2.2.2.2.2.1), (a.2.2.2.2.2.2.2.2.2.2.2.2.2.1), (a.2.2.2.2.2.2.2.2.2.2.2.2.2.2.1), (a.2.2.2.2.2.2.2.2.2.2.2.2.2.2.2.1), (a.2.2.2.2.2.2.2.2.2.2.2.2.2.2.2.2.1), (a.2.2.2.2.2.2.2.2.2.2.2.2.2.2.2.2.2))) s H locs := hw
  refine lv_aload_n hx hb dX0_clear_27 rfl (lv_at hl 0 rfl) ?_
  refine lv_iconst (v := 0) hx hb dX0_clear_28 (by decide) ?_
  refine fs_RX0_56 hC hw 0 rfl rfl rfl (Nat.le_of_ble_eq_true rfl) dX0_clear_29 (fun H locs hw => ?_)
  have hw : kW γ A (aWd γ ab a0 a1 a2 a3 a4 a5 a6 a7 ((a.1), (a.2.1), (a.2.2.1), (a.2.2.2.1), (a.2.2.2.2.1), (a.2.2.2.2.2.1), (a.2.2.2.2.2.2.1), 0, 0, 10, 10, 3, 0, (a.2.2.2.2.2.2.2.2.2.2.2.2.2.1), (a.2.2.2.2.2.2.2.2.2.2.2.2.2.2.1), (a.2.2.2.2.2.2.2.2.2.2.2.2.2.2.2.1), (a.2.2.2.2.2.2.2.2.2.2.2.2.2.2.2.2.1), (a.2.2.2.2.2.2.2.2.2.2.2.2.2.2.2.2.2))) s H locs := hw
  refine lv_aload_n hx hb dX0_clear_32 rfl (lv_at hl 0 rfl) ?_
  refine lv_iconst (v := 0) hx hb dX0_clear_33 (by decide) ?_
  refine fs_RX0_59 hC hw 0 rfl rfl rfl (Nat.le_of_ble_eq_true rfl) dX0_clear_34 (fun H locs hw => ?_)
  have hw : kW γ A (aWd γ ab a0 a1 a2 a3 a4 a5 a6 a7 ((a.1), (a.2.1), (a.2.2.1), (a.2.2.2.1), (a.2.2.2.2.1), (a.2.2.2.2.2.1), (a.2.2.2.2.2.2.1), 0, 0, 10, 10, 3, 0, 0, (a.2.2.2.2.2.2.2.2.2.2.2.2.2.2.1), (a.2.2.2.2.2.2.2.2.2.2.2.2.2.2.2.1), (a.2.2.2.2.2.2.2.2.2.2.2.2.2.2.2.2.1), (a.2.2.2.2.2.2.2.2.2.2.2.2.2.2.2.2.2))) s H locs := hw
  have hE : (F_clear a) = ((a.1), (a.2.1), (a.2.2.1), (a.2.2.2.1), (a.2.2.2.2.1), (a.2.2.2.2.2.1), (a.2.2.2.2.2.2.1), 0, 0, 10, 10, 3, 0, 0, (a.2.2.2.2.2.2.2.2.2.2.2.2.2.2.1), (a.2.2.2.2.2.2.2.2.2.2.2.2.2.2.2.1), (a.2.2.2.2.2.2.2.2.2.2.2.2.2.2.2.2.1), (a.2.2.2.2.2.2.2.2.2.2.2.2.2.2.2.2.2)) := by unfold F_clear; rfl
  have hw : kW γ A (aWd γ ab a0 a1 a2 a3 a4 a5 a6 a7 (F_clear a)) s H locs := by first | (rw [hE]; exact hw) | exact hw
  exact k_vret hC hr hlocks hw [0, 1, 2, 3, 4, 5, 6, 7] rfl rfl ⟨rfl, rfl⟩ (by decide) (by decide) dX0_clear_37

theorem ok_addThought {a : aAS} {x : Int64} {w q : Int32} (hA : aOK a) : aOK (F_addThought a x w q) := by
  have hT : (a.2.2.2.2.2.2.2.1) ≤ 8 := hA.1
  unfold F_addThought
  split
  · exact hA
  · rename_i h
    exact ⟨(lt_c (T := (a.2.2.2.2.2.2.2.1)) (k := 8) (by decide) (by omega) h : (a.2.2.2.2.2.2.2.1) < 8), hA.2.1, hA.2.2⟩
theorem ok_addTenant {a : aAS} {x : Int64} {q : Int32} (hA : aOK a) : aOK (F_addTenant a x q) := by
  have hQ : (a.2.2.2.2.2.2.2.2.1) ≤ 5 := hA.2.1
  unfold F_addTenant
  split
  · exact hA
  · rename_i h
    exact ⟨hA.1, (lt_c (T := (a.2.2.2.2.2.2.2.2.1)) (k := 5) (by decide) (by omega) h : (a.2.2.2.2.2.2.2.2.1) < 5), hA.2.2⟩
theorem ok_addFollower {a : aAS} {k q : Int32} (hA : aOK a) : aOK (F_addFollower a k q) := hA
section OKS
variable {f : Nat → Int32} {n : Nat} {rs : rRS} {a : aAS} {w : Nat}
theorem ok_readThought (_ : n ≤ 1000) (hA : aOK a) : aOK (F_readThought f n rs a).2 := by
  unfold F_readThought
  repeat' split
  all_goals first | exact hA | exact ok_addThought hA
theorem ok_readFollows (_ : n ≤ 1000) (hA : aOK a) : aOK (F_readFollows f n rs a).2 := by
  unfold F_readFollows
  repeat' split
  all_goals first | exact hA | exact ok_addFollower hA
theorem ok_readTenant (_ : n ≤ 1000) (hA : aOK a) : aOK (F_readTenant f n rs a).2 := by
  unfold F_readTenant
  repeat' split
  all_goals first | exact hA | exact ok_addTenant hA
theorem ok_readSetting (hn : n ≤ 1000) (hA : aOK a) : aOK (F_readSetting f n rs a w).2 := by
  unfold F_readSetting
  repeat' split
  all_goals exact ok_passOnce hn hA
theorem ok_readLaw (hn : n ≤ 1000) (hA : aOK a) : aOK (F_readLaw f n rs a w).2 := by
  unfold F_readLaw
  repeat' split
  all_goals exact ok_eE (ok_eP 5) _ _ (ok_passOnce hn hA)
theorem ok_clear : aOK (F_clear a) := ⟨Nat.zero_le _, Nat.zero_le _, Nat.zero_le _⟩
end OKS

def rs0 (f : Nat → Int32) (n : Nat) (x : Int32) (y : Int64) : rRS := (0, 0, tn f n 0 x, tl f n 0 y)

set_option maxHeartbeats 4000000 in
set_option maxRecDepth 100000 in
theorem c_tbegin (γ : kΓ) (l : Launch) (h : Nat) (hg : Nat) (t2 : Int32) (tb : Int32) (t4 : Int32) (t5 : Int32) (t6 : Int64) (t7 : Nat) (n : Nat) (f : Nat → Int32) (hn : n ≤ 1000) (hok : ∀ k, k < n → kok (f k) = true) : kM γ l yX8_begin cX8_begin 1 none ({ frames := 2, cells := 0, slots := 0, locals := 61 } : Room) [.ref h] [(h, .inr (8, [.ref hg, .int (nI n), .int t2, .int tb, .int t4, .int t5, .long t6, .ref t7])), (hg, .inl (γ.2.1 2, 1000, .inl f))] (fun r w1 => r = none ∧ w1 = (tWd γ h hg n f ((rs0 f n t5 t6).2.1) ((rs0 f n t5 t6).2.2.1) ((rs0 f n t5 t6).2.2.2))) := by
  refine k_ofW (by decide) (Nat.le_of_ble_eq_true rfl) ?_
  intro p9 e s m below meth c A ls hC hr hlocks hname hw hl
  have hx := hC.1
  have hb := hC.2.1
  have hl : lv_has ls 1 [(0, .ref h)] := hl
  refine lv_aload_n hx hb dX8_begin_0 rfl (lv_at hl 0 rfl) ?_
  refine lv_iconst (v := 0) hx hb dX8_begin_1 (by decide) ?_
  refine fs_RX8_28 hC hw 0 rfl rfl rfl (Nat.le_of_ble_eq_true rfl) dX8_begin_2 (fun H locs hw => ?_)
  have hw : kW γ A [(h, .inr (8, [.ref hg, .int (nI n), .int t2, .int 0, .int t4, .int t5, .long t6, .ref t7])), (hg, .inl (γ.2.1 2, 1000, .inl f))] s H locs := hw
  refine lv_aload_n hx hb dX8_begin_5 rfl (lv_at hl 0 rfl) ?_
  refine k_V (wr := []) 0 gw_460 gw_461 gw_462 gw_2 gw_463 hd_X8_advance hC hw (c_X8_advance γ l h hg t2 t4 t5 t6 t7 n 0 f hn (Nat.zero_le _) hok) ⟨by decide, by decide⟩ ⟨by decide, by decide⟩ hl.1 rfl 0 rfl rfl rfl (Nat.le_of_ble_eq_true rfl) [0, 1] [] rfl rfl rfl rfl (by decide) dX8_begin_6 (fun r w1 H locs hq hw => ?_)
  obtain ⟨rfl, rfl⟩ := hq
  have hw : kW γ A (tWd γ h hg n f 0 (tn f n 0 t5) (tl f n 0 t6)) s H locs := hw
  refine W.eq (g2 := F0 m 9 ls []) rfl ?_
  have hw : kW γ A (tWd γ h hg n f ((rs0 f n t5 t6).2.1) ((rs0 f n t5 t6).2.2.1) ((rs0 f n t5 t6).2.2.2)) s H locs := hw
  exact k_vret hC hr hlocks hw [0, 1] rfl rfl ⟨rfl, rfl⟩ (by decide) (by decide) dX8_begin_9

set_option maxHeartbeats 4000000 in
set_option maxRecDepth 100000 in
theorem c_rbegin (γ : kΓ) (l : Launch) (rr : Nat) (rl : Nat) (ab : Nat) (mn : Int32) (h : Nat) (hg : Nat) (n : Nat) (f : Nat → Int32) (fa : Int32) (ab9 : Nat) (t2 : Int32) (tb : Int32) (t4 : Int32) (t5 : Int32) (t6 : Int64) (t7 : Nat) (hn : n ≤ 1000) (hok : ∀ k, k < n → kok (f k) = true) : kM γ l yX5_begin cX5_begin 2 none ({ frames := 3, cells := 0, slots := 0, locals := 81 } : Room) [.ref rr, .ref ab] [(rr, .inr (5, [.ref h, .ref rl, .ref ab9, .int mn, .int fa])), (h, .inr (8, [.ref hg, .int (nI n), .int t2, .int tb, .int t4, .int t5, .long t6, .ref t7])), (hg, .inl (γ.2.1 2, 1000, .inl f))] (fun r w1 => r = none ∧ w1 = ([(rr, .inr (5, [.ref h, .ref rl, .ref ab, .int mn, .int ((rs0 f n t5 t6).1)]))] ++ (tWd γ h hg n f ((rs0 f n t5 t6).2.1) ((rs0 f n t5 t6).2.2.1) ((rs0 f n t5 t6).2.2.2)))) := by
  refine k_ofW (by decide) (Nat.le_of_ble_eq_true rfl) ?_
  intro p9 e s m below meth c A ls hC hr hlocks hname hw hl
  have hx := hC.1
  have hb := hC.2.1
  have hl : lv_has ls 2 [(0, .ref rr), (1, .ref ab)] := hl
  refine lv_aload_n hx hb dX5_begin_0 rfl (lv_at hl 0 rfl) ?_
  refine lv_aload_n hx hb dX5_begin_1 rfl (lv_at hl 1 rfl) ?_
  refine fs_RX5_19 hC hw 0 rfl rfl rfl (Nat.le_of_ble_eq_true rfl) dX5_begin_2 (fun H locs hw => ?_)
  have hw : kW γ A [(rr, .inr (5, [.ref h, .ref rl, .ref ab, .int mn, .int fa])), (h, .inr (8, [.ref hg, .int (nI n), .int t2, .int tb, .int t4, .int t5, .long t6, .ref t7])), (hg, .inl (γ.2.1 2, 1000, .inl f))] s H locs := hw
  refine lv_aload_n hx hb dX5_begin_5 rfl (lv_at hl 0 rfl) ?_
  refine lv_iconst (v := 0) hx hb dX5_begin_6 (by decide) ?_
  refine fs_RX5_91 hC hw 0 rfl rfl rfl (Nat.le_of_ble_eq_true rfl) dX5_begin_7 (fun H locs hw => ?_)
  have hw : kW γ A [(rr, .inr (5, [.ref h, .ref rl, .ref ab, .int mn, .int 0])), (h, .inr (8, [.ref hg, .int (nI n), .int t2, .int tb, .int t4, .int t5, .long t6, .ref t7])), (hg, .inl (γ.2.1 2, 1000, .inl f))] s H locs := hw
  refine lv_aload_n hx hb dX5_begin_10 rfl (lv_at hl 0 rfl) ?_
  refine fg_RX5_15 hC hw 0 rfl rfl dX5_begin_11 ?_
  refine k_V (wr := [(rr, .inr (5, [.ref h, .ref rl, .ref ab, .int mn, .int 0]))]) 0 gw_456 gw_457 gw_458 gw_2 gw_459 hd_X8_begin hC hw (c_tbegin γ l h hg t2 tb t4 t5 t6 t7 n f hn hok) ⟨by decide, by decide⟩ ⟨by decide, by decide⟩ hl.1 rfl 1 rfl rfl rfl (Nat.le_of_ble_eq_true rfl) [1, 2] [0] rfl rfl rfl rfl (by decide) dX5_begin_14 (fun r w1 H locs hq hw => ?_)
  obtain ⟨rfl, rfl⟩ := hq
  have hw : kW γ A ([(rr, .inr (5, [.ref h, .ref rl, .ref ab, .int mn, .int 0]))] ++ (tWd γ h hg n f ((rs0 f n t5 t6).2.1) ((rs0 f n t5 t6).2.2.1) ((rs0 f n t5 t6).2.2.2))) s H locs := hw
  refine W.eq (g2 := F0 m 17 ls []) rfl ?_
  have hw : kW γ A ([(rr, .inr (5, [.ref h, .ref rl, .ref ab, .int mn, .int ((rs0 f n t5 t6).1)]))] ++ (tWd γ h hg n f ((rs0 f n t5 t6).2.1) ((rs0 f n t5 t6).2.2.1) ((rs0 f n t5 t6).2.2.2))) s H locs := hw
  exact k_vret hC hr hlocks hw [0, 1, 2] rfl rfl ⟨rfl, rfl⟩ (by decide) (by decide) dX5_begin_17

set_option maxHeartbeats 4000000 in
set_option maxRecDepth 100000 in
theorem c_empty (γ : kΓ) (l : Launch) (h : Nat) (hg : Nat) (le : Int32) (t2 : Int32) (tb : Int32) (t4 : Int32) (t5 : Int32) (t6 : Int64) (t7 : Nat) : kM γ l yX8_empty cX8_empty 1 none ({ frames := 0, cells := 0, slots := 0, locals := 0 } : Room) [.ref h] [(h, .inr (8, [.ref hg, .int le, .int t2, .int tb, .int t4, .int t5, .long t6, .ref t7]))] (fun r w1 => r = none ∧ w1 = [(h, .inr (8, [.ref hg, .int 0, .int t2, .int tb, .int t4, .int t5, .long t6, .ref t7]))]) := by
  refine k_ofW (by decide) (Nat.le_of_ble_eq_true rfl) ?_
  intro p9 e s m below meth c A ls hC hr hlocks hname hw hl
  have hx := hC.1
  have hb := hC.2.1
  have hl : lv_has ls 1 [(0, .ref h)] := hl
  refine lv_aload_n hx hb dX8_empty_0 rfl (lv_at hl 0 rfl) ?_
  refine lv_iconst (v := 0) hx hb dX8_empty_1 (by decide) ?_
  refine fs_RX8_24 hC hw 0 rfl rfl rfl (Nat.le_of_ble_eq_true rfl) dX8_empty_2 (fun H locs hw => ?_)
  have hw : kW γ A [(h, .inr (8, [.ref hg, .int 0, .int t2, .int tb, .int t4, .int t5, .long t6, .ref t7]))] s H locs := hw
  exact k_vret hC hr hlocks hw [0] rfl rfl ⟨rfl, rfl⟩ (by decide) (by decide) dX8_empty_5


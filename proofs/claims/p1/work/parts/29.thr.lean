theorem dX11_best_0 : decode cX11_best 0 = .ok (.aload_n 0, 1) := by decide +kernel
theorem dX11_best_1 : decode cX11_best 1 = .ok (.iload_n 1, 1) := by decide +kernel
theorem dX11_best_2 : decode cX11_best 2 = .ok (.invokevirtual 114, 3) := by decide +kernel
theorem dX11_best_5 : decode cX11_best 5 = .ok (.ifCond .eq 23, 3) := by decide +kernel
theorem dX11_best_8 : decode cX11_best 8 = .ok (.iload_n 2, 1) := by decide +kernel
theorem dX11_best_9 : decode cX11_best 9 = .ok (.iconst 1, 1) := by decide +kernel
theorem dX11_best_10 : decode cX11_best 10 = .ok (.if_icmp .lt 18, 3) := by decide +kernel
theorem dX11_best_13 : decode cX11_best 13 = .ok (.iload_n 2, 1) := by decide +kernel
theorem dX11_best_14 : decode cX11_best 14 = .ok (.iconst 5, 1) := by decide +kernel
theorem dX11_best_15 : decode cX11_best 15 = .ok (.if_icmp .gt 13, 3) := by decide +kernel
theorem dX11_best_18 : decode cX11_best 18 = .ok (.iload_n 3, 1) := by decide +kernel
theorem dX11_best_19 : decode cX11_best 19 = .ok (.iconst (-1), 1) := by decide +kernel
theorem dX11_best_20 : decode cX11_best 20 = .ok (.if_icmp .lt 8, 3) := by decide +kernel
theorem dX11_best_23 : decode cX11_best 23 = .ok (.iload_n 3, 1) := by decide +kernel
theorem dX11_best_24 : decode cX11_best 24 = .ok (.iload_n 2, 1) := by decide +kernel
theorem dX11_best_25 : decode cX11_best 25 = .ok (.if_icmp .lt 11, 3) := by decide +kernel
theorem dX11_best_28 : decode cX11_best 28 = .ok (.new 225, 3) := by decide +kernel
theorem dX11_best_31 : decode cX11_best 31 = .ok (.dup, 1) := by decide +kernel
theorem dX11_best_32 : decode cX11_best 32 = .ok (.invokespecial 227, 3) := by decide +kernel
theorem dX11_best_35 : decode cX11_best 35 = .ok (.athrow, 1) := by decide +kernel
theorem dX11_best_36 : decode cX11_best 36 = .ok (.aload_n 0, 1) := by decide +kernel
theorem dX11_best_37 : decode cX11_best 37 = .ok (.getfield 51, 3) := by decide +kernel
theorem dX11_best_40 : decode cX11_best 40 = .ok (.aload_n 0, 1) := by decide +kernel
theorem dX11_best_41 : decode cX11_best 41 = .ok (.getfield 65, 3) := by decide +kernel
theorem dX11_best_44 : decode cX11_best 44 = .ok (.aload_n 0, 1) := by decide +kernel
theorem dX11_best_45 : decode cX11_best 45 = .ok (.getfield 26, 3) := by decide +kernel
theorem dX11_best_48 : decode cX11_best 48 = .ok (.getfield 131, 3) := by decide +kernel
theorem dX11_best_51 : decode cX11_best 51 = .ok (.iload_n 1, 1) := by decide +kernel
theorem dX11_best_52 : decode cX11_best 52 = .ok (.iload_n 2, 1) := by decide +kernel
theorem dX11_best_53 : decode cX11_best 53 = .ok (.invokevirtual 249, 3) := by decide +kernel
theorem dX11_best_56 : decode cX11_best 56 = .ok (.istore 4, 2) := by decide +kernel
theorem dX11_best_58 : decode cX11_best 58 = .ok (.iload 4, 2) := by decide +kernel
theorem dX11_best_60 : decode cX11_best 60 = .ok (.ldc 253, 2) := by decide +kernel
theorem dX11_best_62 : decode cX11_best 62 = .ok (.if_icmp .ne 11, 3) := by decide +kernel
theorem dX11_best_65 : decode cX11_best 65 = .ok (.new 225, 3) := by decide +kernel
theorem dX11_best_68 : decode cX11_best 68 = .ok (.dup, 1) := by decide +kernel
theorem dX11_best_69 : decode cX11_best 69 = .ok (.invokespecial 227, 3) := by decide +kernel
theorem dX11_best_72 : decode cX11_best 72 = .ok (.athrow, 1) := by decide +kernel
theorem dX11_best_73 : decode cX11_best 73 = .ok (.iload_n 3, 1) := by decide +kernel
theorem dX11_best_74 : decode cX11_best 74 = .ok (.iconst (-1), 1) := by decide +kernel
theorem dX11_best_75 : decode cX11_best 75 = .ok (.if_icmp .ne 8, 3) := by decide +kernel
theorem dX11_best_78 : decode cX11_best 78 = .ok (.iload 4, 2) := by decide +kernel
theorem dX11_best_80 : decode cX11_best 80 = .ok (.goto 12, 3) := by decide +kernel
theorem dX11_best_83 : decode cX11_best 83 = .ok (.aload_n 0, 1) := by decide +kernel
theorem dX11_best_84 : decode cX11_best 84 = .ok (.getfield 51, 3) := by decide +kernel
theorem dX11_best_87 : decode cX11_best 87 = .ok (.getfield 254, 3) := by decide +kernel
theorem dX11_best_90 : decode cX11_best 90 = .ok (.iload_n 3, 1) := by decide +kernel
theorem dX11_best_91 : decode cX11_best 91 = .ok (.iaload, 1) := by decide +kernel
theorem dX11_best_92 : decode cX11_best 92 = .ok (.ireturn, 1) := by decide +kernel
set_option maxHeartbeats 4000000 in
set_option maxRecDepth 100000 in
theorem c_X11_judged_l (γ : kΓ) (l : Launch) (hl9 : l.stackTraces = false) (x : Nat) (x0 : Nat) (x1 : Nat) (x2 : Nat) (x3 : Nat) (x4 : Nat) (x5 : Nat) (x6 : Nat) (x7 : Nat) (x8 : Nat) (x9 : Nat) (x10 : Nat) (t : Int32) (h1 : t < 0) : kMX γ l yX11_judged cX11_judged 2 ((some .int)) ({ frames := 6, cells := 1, slots := 6, locals := 100 } : Room) [.ref x, .int t] [(x, .inr (10, [.ref x0, .ref x1, .ref x2, .ref x3, .ref x4, .ref x5, .ref x6, .ref x7, .ref x8, .ref x9, .ref x10]))] := by
  refine k_ofWX (by decide) (Nat.le_of_ble_eq_true rfl) ?_
  intro p e s m below meth c A ls hC hlocks hT hw hl
  have hx := hC.1
  have hb := hC.2.1
  have hl : lv_has ls 2 [(0, .ref x), (1, .int t)] := hl
  refine lv_iload_n hx hb dX11_judged_0 rfl (lv_at hl 1 rfl) ?_
  refine lv_if_lt (tgt := 9) hx hb dX11_judged_1 (by decide) (fun _ => ?_) (fun h => absurd h1 h)
  exact k_throw hC hl9 hw hl.1 hT hlocks dX11_judged_9 dX11_judged_12 dX11_judged_13 dX11_judged_16 (by decide) (Nat.le_of_ble_eq_true rfl) (by decide) (by decide) (by decide) (by decide)

set_option maxHeartbeats 4000000 in
set_option maxRecDepth 100000 in
theorem c_X11_judged_h (γ : kΓ) (l : Launch) (hl9 : l.stackTraces = false) (x : Nat) (x0 : Nat) (x1 : Nat) (x2 : Nat) (x3 : Nat) (x4 : Nat) (x5 : Nat) (x6 : Nat) (x7 : Nat) (x8 : Nat) (x9 : Nat) (x10 : Nat) (t : Int32) (h1 : ¬ t < 0) (h2 : 2 < t) : kMX γ l yX11_judged cX11_judged 2 ((some .int)) ({ frames := 6, cells := 1, slots := 6, locals := 100 } : Room) [.ref x, .int t] [(x, .inr (10, [.ref x0, .ref x1, .ref x2, .ref x3, .ref x4, .ref x5, .ref x6, .ref x7, .ref x8, .ref x9, .ref x10]))] := by
  refine k_ofWX (by decide) (Nat.le_of_ble_eq_true rfl) ?_
  intro p e s m below meth c A ls hC hlocks hT hw hl
  have hx := hC.1
  have hb := hC.2.1
  have hl : lv_has ls 2 [(0, .ref x), (1, .int t)] := hl
  refine lv_iload_n hx hb dX11_judged_0 rfl (lv_at hl 1 rfl) ?_
  refine lv_if_lt (tgt := 9) hx hb dX11_judged_1 (by decide) (fun h => absurd h h1) (fun _ => ?_)
  refine lv_iload_n hx hb dX11_judged_4 rfl (lv_at hl 1 rfl) ?_
  refine lv_iconst (v := 2) hx hb dX11_judged_5 (by decide) ?_
  refine lv_icmp_le (tgt := 17) hx hb dX11_judged_6 (by decide) (fun h => absurd h (fun h9 => absurd h2 (Int32.not_lt.mpr h9))) (fun _ => ?_)
  exact k_throw hC hl9 hw hl.1 hT hlocks dX11_judged_9 dX11_judged_12 dX11_judged_13 dX11_judged_16 (by decide) (Nat.le_of_ble_eq_true rfl) (by decide) (by decide) (by decide) (by decide)

set_option maxHeartbeats 4000000 in
set_option maxRecDepth 100000 in
theorem c_X11_best (γ : kΓ) (l : Launch) (hl9 : l.stackTraces = false) (x : Nat) (x0 : Nat) (x1 : Nat) (x2 : Nat) (x3 : Nat) (x4 : Nat) (x5 : Nat) (x6 : Nat) (x7 : Nat) (x8 : Nat) (x9 : Nat) (x10 : Nat) (x90 : Nat) (x91 : Nat) (x92 : Nat) (x93 : Nat) (x94 : Nat) (x95 : Nat) (x96 : Nat) (x97 : Nat) (t : Int32) (u : Int32) (v : Int32) : kMX γ l yX11_best cX11_best 5 ((some .int)) ({ frames := 6, cells := 1, slots := 6, locals := 100 } : Room) [.ref x, .int t, .int u, .int v] [(x, .inr (10, [.ref x0, .ref x1, .ref x2, .ref x3, .ref x4, .ref x5, .ref x6, .ref x7, .ref x8, .ref x9, .ref x10])), (x9, .inr (0, [.ref x90, .ref x91, .ref x92, .ref x93, .ref x94, .ref x95, .ref x96, .ref x97, .int 0, .int 0, .int 10, .int 10, .int 3, .int 0, .int 0, .int 0, .int 0, .int 0, .int 0]))] := by
  refine k_ofWX (by decide) (Nat.le_of_ble_eq_true rfl) ?_
  intro p e s m below meth c A ls hC hlocks hT hw hl
  have hx := hC.1
  have hb := hC.2.1
  have hl : lv_has ls 5 [(0, .ref x), (1, .int t), (2, .int u), (3, .int v)] := hl
  refine lv_aload_n hx hb dX11_best_0 rfl (lv_at hl 0 rfl) ?_
  refine lv_iload_n hx hb dX11_best_1 rfl (lv_at hl 1 rfl) ?_
  refine k_V (wr := []) 1 gw_705 gw_707 gp_25 gw_1 gw_708 hd_X11_isTenant hC hw (c_X11_isTenant γ l x x0 x1 x2 x3 x4 x5 x6 x7 x8 x9 x10 x90 x91 x92 x93 x94 x95 x96 x97 t) ⟨by decide, by decide⟩ ⟨by decide, by decide⟩ hl.1 rfl 0 rfl rfl rfl (Nat.le_of_ble_eq_true rfl) [0, 1] [] rfl rfl rfl rfl (by decide) dX11_best_2 (fun r w1 H locs hq hw => ?_)
  obtain ⟨rfl, rfl⟩ := hq
  have hw : kW γ A [(x, .inr (10, [.ref x0, .ref x1, .ref x2, .ref x3, .ref x4, .ref x5, .ref x6, .ref x7, .ref x8, .ref x9, .ref x10])), (x9, .inr (0, [.ref x90, .ref x91, .ref x92, .ref x93, .ref x94, .ref x95, .ref x96, .ref x97, .int 0, .int 0, .int 10, .int 10, .int 3, .int 0, .int 0, .int 0, .int 0, .int 0, .int 0]))] s H locs := hw
  refine W.eq (g2 := F0 m 5 ls [.int 0]) rfl ?_
  refine lv_if_eq (tgt := 28) hx hb dX11_best_5 (by decide) (fun _ => ?_) (fun h => absurd (by decide) h)
  exact k_throw hC hl9 hw hl.1 hT hlocks dX11_best_28 dX11_best_31 dX11_best_32 dX11_best_35 (by decide) (Nat.le_of_ble_eq_true rfl) (by decide) (by decide) (by decide) (by decide)

set_option maxHeartbeats 4000000 in
set_option maxRecDepth 100000 in
theorem c_X11_lives_a (γ : kΓ) (l : Launch) (hl9 : l.stackTraces = false) (x : Nat) (x0 : Nat) (x1 : Nat) (x2 : Nat) (x3 : Nat) (x4 : Nat) (x5 : Nat) (x6 : Nat) (x7 : Nat) (x8 : Nat) (x9 : Nat) (x10 : Nat) (sd : Int32) (sp : Int32) (wt : Int32) (h1 : sd < 0) : kMX γ l yX11_lives cX11_lives 4 ((some .int)) ({ frames := 6, cells := 1, slots := 6, locals := 100 } : Room) [.ref x, .int sd, .int sp, .int wt] [(x, .inr (10, [.ref x0, .ref x1, .ref x2, .ref x3, .ref x4, .ref x5, .ref x6, .ref x7, .ref x8, .ref x9, .ref x10]))] := by
  refine k_ofWX (by decide) (Nat.le_of_ble_eq_true rfl) ?_
  intro p e s m below meth c A ls hC hlocks hT hw hl
  have hx := hC.1
  have hb := hC.2.1
  have hl : lv_has ls 4 [(0, .ref x), (1, .int sd), (2, .int sp), (3, .int wt)] := hl
  refine lv_iload_n hx hb dX11_lives_0 rfl (lv_at hl 1 rfl) ?_
  refine lv_if_lt (tgt := 31) hx hb dX11_lives_1 (by decide) (fun _ => ?_) (fun h => absurd h1 h)
  exact k_throw hC hl9 hw hl.1 hT hlocks dX11_lives_31 dX11_lives_34 dX11_lives_35 dX11_lives_38 (by decide) (Nat.le_of_ble_eq_true rfl) (by decide) (by decide) (by decide) (by decide)

set_option maxHeartbeats 4000000 in
set_option maxRecDepth 100000 in
theorem c_X11_lives_b (γ : kΓ) (l : Launch) (hl9 : l.stackTraces = false) (x : Nat) (x0 : Nat) (x1 : Nat) (x2 : Nat) (x3 : Nat) (x4 : Nat) (x5 : Nat) (x6 : Nat) (x7 : Nat) (x8 : Nat) (x9 : Nat) (x10 : Nat) (sd : Int32) (sp : Int32) (wt : Int32) (h1 : ¬ sd < 0) (h2 : 9999 < sd) : kMX γ l yX11_lives cX11_lives 4 ((some .int)) ({ frames := 6, cells := 1, slots := 6, locals := 100 } : Room) [.ref x, .int sd, .int sp, .int wt] [(x, .inr (10, [.ref x0, .ref x1, .ref x2, .ref x3, .ref x4, .ref x5, .ref x6, .ref x7, .ref x8, .ref x9, .ref x10]))] := by
  refine k_ofWX (by decide) (Nat.le_of_ble_eq_true rfl) ?_
  intro p e s m below meth c A ls hC hlocks hT hw hl
  have hx := hC.1
  have hb := hC.2.1
  have hl : lv_has ls 4 [(0, .ref x), (1, .int sd), (2, .int sp), (3, .int wt)] := hl
  refine lv_iload_n hx hb dX11_lives_0 rfl (lv_at hl 1 rfl) ?_
  refine lv_if_lt (tgt := 31) hx hb dX11_lives_1 (by decide) (fun h => absurd h h1) (fun _ => ?_)
  refine lv_iload_n hx hb dX11_lives_4 rfl (lv_at hl 1 rfl) ?_
  refine lv_sipush (v := 9999) hx hb dX11_lives_5 (by decide) ?_
  refine lv_icmp_gt (tgt := 31) hx hb dX11_lives_8 (by decide) (fun _ => ?_) (fun h => absurd h2 h)
  exact k_throw hC hl9 hw hl.1 hT hlocks dX11_lives_31 dX11_lives_34 dX11_lives_35 dX11_lives_38 (by decide) (Nat.le_of_ble_eq_true rfl) (by decide) (by decide) (by decide) (by decide)

set_option maxHeartbeats 4000000 in
set_option maxRecDepth 100000 in
theorem c_X11_lives_c (γ : kΓ) (l : Launch) (hl9 : l.stackTraces = false) (x : Nat) (x0 : Nat) (x1 : Nat) (x2 : Nat) (x3 : Nat) (x4 : Nat) (x5 : Nat) (x6 : Nat) (x7 : Nat) (x8 : Nat) (x9 : Nat) (x10 : Nat) (sd : Int32) (sp : Int32) (wt : Int32) (hs0 : ¬ sd < 0) (hs1 : ¬ 9999 < sd) (h1 : sp < 1) : kMX γ l yX11_lives cX11_lives 4 ((some .int)) ({ frames := 6, cells := 1, slots := 6, locals := 100 } : Room) [.ref x, .int sd, .int sp, .int wt] [(x, .inr (10, [.ref x0, .ref x1, .ref x2, .ref x3, .ref x4, .ref x5, .ref x6, .ref x7, .ref x8, .ref x9, .ref x10]))] := by
  refine k_ofWX (by decide) (Nat.le_of_ble_eq_true rfl) ?_
  intro p e s m below meth c A ls hC hlocks hT hw hl
  have hx := hC.1
  have hb := hC.2.1
  have hl : lv_has ls 4 [(0, .ref x), (1, .int sd), (2, .int sp), (3, .int wt)] := hl
  refine lv_iload_n hx hb dX11_lives_0 rfl (lv_at hl 1 rfl) ?_
  refine lv_if_lt (tgt := 31) hx hb dX11_lives_1 (by decide) (fun h => absurd h hs0) (fun _ => ?_)
  refine lv_iload_n hx hb dX11_lives_4 rfl (lv_at hl 1 rfl) ?_
  refine lv_sipush (v := 9999) hx hb dX11_lives_5 (by decide) ?_
  refine lv_icmp_gt (tgt := 31) hx hb dX11_lives_8 (by decide) (fun h => absurd h hs1) (fun _ => ?_)
  refine lv_iload_n hx hb dX11_lives_11 rfl (lv_at hl 2 rfl) ?_
  refine lv_iconst (v := 1) hx hb dX11_lives_12 (by decide) ?_
  refine lv_icmp_lt (tgt := 31) hx hb dX11_lives_13 (by decide) (fun _ => ?_) (fun h => absurd h1 h)
  exact k_throw hC hl9 hw hl.1 hT hlocks dX11_lives_31 dX11_lives_34 dX11_lives_35 dX11_lives_38 (by decide) (Nat.le_of_ble_eq_true rfl) (by decide) (by decide) (by decide) (by decide)

set_option maxHeartbeats 4000000 in
set_option maxRecDepth 100000 in
theorem c_X11_lives_d (γ : kΓ) (l : Launch) (hl9 : l.stackTraces = false) (x : Nat) (x0 : Nat) (x1 : Nat) (x2 : Nat) (x3 : Nat) (x4 : Nat) (x5 : Nat) (x6 : Nat) (x7 : Nat) (x8 : Nat) (x9 : Nat) (x10 : Nat) (sd : Int32) (sp : Int32) (wt : Int32) (hs0 : ¬ sd < 0) (hs1 : ¬ 9999 < sd) (h1 : ¬ sp < 1) (h2 : 99 < sp) : kMX γ l yX11_lives cX11_lives 4 ((some .int)) ({ frames := 6, cells := 1, slots := 6, locals := 100 } : Room) [.ref x, .int sd, .int sp, .int wt] [(x, .inr (10, [.ref x0, .ref x1, .ref x2, .ref x3, .ref x4, .ref x5, .ref x6, .ref x7, .ref x8, .ref x9, .ref x10]))] := by
  refine k_ofWX (by decide) (Nat.le_of_ble_eq_true rfl) ?_
  intro p e s m below meth c A ls hC hlocks hT hw hl
  have hx := hC.1
  have hb := hC.2.1
  have hl : lv_has ls 4 [(0, .ref x), (1, .int sd), (2, .int sp), (3, .int wt)] := hl
  refine lv_iload_n hx hb dX11_lives_0 rfl (lv_at hl 1 rfl) ?_
  refine lv_if_lt (tgt := 31) hx hb dX11_lives_1 (by decide) (fun h => absurd h hs0) (fun _ => ?_)
  refine lv_iload_n hx hb dX11_lives_4 rfl (lv_at hl 1 rfl) ?_
  refine lv_sipush (v := 9999) hx hb dX11_lives_5 (by decide) ?_
  refine lv_icmp_gt (tgt := 31) hx hb dX11_lives_8 (by decide) (fun h => absurd h hs1) (fun _ => ?_)
  refine lv_iload_n hx hb dX11_lives_11 rfl (lv_at hl 2 rfl) ?_
  refine lv_iconst (v := 1) hx hb dX11_lives_12 (by decide) ?_
  refine lv_icmp_lt (tgt := 31) hx hb dX11_lives_13 (by decide) (fun h => absurd h h1) (fun _ => ?_)
  refine lv_iload_n hx hb dX11_lives_16 rfl (lv_at hl 2 rfl) ?_
  refine lv_bipush (v := 99) hx hb dX11_lives_17 (by decide) ?_
  refine lv_icmp_gt (tgt := 31) hx hb dX11_lives_19 (by decide) (fun _ => ?_) (fun h => absurd h2 h)
  exact k_throw hC hl9 hw hl.1 hT hlocks dX11_lives_31 dX11_lives_34 dX11_lives_35 dX11_lives_38 (by decide) (Nat.le_of_ble_eq_true rfl) (by decide) (by decide) (by decide) (by decide)

set_option maxHeartbeats 4000000 in
set_option maxRecDepth 100000 in
theorem c_X11_lives_e (γ : kΓ) (l : Launch) (hl9 : l.stackTraces = false) (x : Nat) (x0 : Nat) (x1 : Nat) (x2 : Nat) (x3 : Nat) (x4 : Nat) (x5 : Nat) (x6 : Nat) (x7 : Nat) (x8 : Nat) (x9 : Nat) (x10 : Nat) (sd : Int32) (sp : Int32) (wt : Int32) (hs0 : ¬ sd < 0) (hs1 : ¬ 9999 < sd) (hs2 : ¬ sp < 1) (hs3 : ¬ 99 < sp) (h1 : wt < 0) : kMX γ l yX11_lives cX11_lives 4 ((some .int)) ({ frames := 6, cells := 1, slots := 6, locals := 100 } : Room) [.ref x, .int sd, .int sp, .int wt] [(x, .inr (10, [.ref x0, .ref x1, .ref x2, .ref x3, .ref x4, .ref x5, .ref x6, .ref x7, .ref x8, .ref x9, .ref x10]))] := by
  refine k_ofWX (by decide) (Nat.le_of_ble_eq_true rfl) ?_
  intro p e s m below meth c A ls hC hlocks hT hw hl
  have hx := hC.1
  have hb := hC.2.1
  have hl : lv_has ls 4 [(0, .ref x), (1, .int sd), (2, .int sp), (3, .int wt)] := hl
  refine lv_iload_n hx hb dX11_lives_0 rfl (lv_at hl 1 rfl) ?_
  refine lv_if_lt (tgt := 31) hx hb dX11_lives_1 (by decide) (fun h => absurd h hs0) (fun _ => ?_)
  refine lv_iload_n hx hb dX11_lives_4 rfl (lv_at hl 1 rfl) ?_
  refine lv_sipush (v := 9999) hx hb dX11_lives_5 (by decide) ?_
  refine lv_icmp_gt (tgt := 31) hx hb dX11_lives_8 (by decide) (fun h => absurd h hs1) (fun _ => ?_)
  refine lv_iload_n hx hb dX11_lives_11 rfl (lv_at hl 2 rfl) ?_
  refine lv_iconst (v := 1) hx hb dX11_lives_12 (by decide) ?_
  refine lv_icmp_lt (tgt := 31) hx hb dX11_lives_13 (by decide) (fun h => absurd h hs2) (fun _ => ?_)
  refine lv_iload_n hx hb dX11_lives_16 rfl (lv_at hl 2 rfl) ?_
  refine lv_bipush (v := 99) hx hb dX11_lives_17 (by decide) ?_
  refine lv_icmp_gt (tgt := 31) hx hb dX11_lives_19 (by decide) (fun h => absurd h hs3) (fun _ => ?_)
  refine lv_iload_n hx hb dX11_lives_22 rfl (lv_at hl 3 rfl) ?_
  refine lv_if_lt (tgt := 31) hx hb dX11_lives_23 (by decide) (fun _ => ?_) (fun h => absurd h1 h)
  exact k_throw hC hl9 hw hl.1 hT hlocks dX11_lives_31 dX11_lives_34 dX11_lives_35 dX11_lives_38 (by decide) (Nat.le_of_ble_eq_true rfl) (by decide) (by decide) (by decide) (by decide)

set_option maxHeartbeats 4000000 in
set_option maxRecDepth 100000 in
theorem c_X11_lives_f (γ : kΓ) (l : Launch) (hl9 : l.stackTraces = false) (x : Nat) (x0 : Nat) (x1 : Nat) (x2 : Nat) (x3 : Nat) (x4 : Nat) (x5 : Nat) (x6 : Nat) (x7 : Nat) (x8 : Nat) (x9 : Nat) (x10 : Nat) (sd : Int32) (sp : Int32) (wt : Int32) (hs0 : ¬ sd < 0) (hs1 : ¬ 9999 < sd) (hs2 : ¬ sp < 1) (hs3 : ¬ 99 < sp) (h1 : ¬ wt < 0) (h2 : 2 < wt) : kMX γ l yX11_lives cX11_lives 4 ((some .int)) ({ frames := 6, cells := 1, slots := 6, locals := 100 } : Room) [.ref x, .int sd, .int sp, .int wt] [(x, .inr (10, [.ref x0, .ref x1, .ref x2, .ref x3, .ref x4, .ref x5, .ref x6, .ref x7, .ref x8, .ref x9, .ref x10]))] := by
  refine k_ofWX (by decide) (Nat.le_of_ble_eq_true rfl) ?_
  intro p e s m below meth c A ls hC hlocks hT hw hl
  have hx := hC.1
  have hb := hC.2.1
  have hl : lv_has ls 4 [(0, .ref x), (1, .int sd), (2, .int sp), (3, .int wt)] := hl
  refine lv_iload_n hx hb dX11_lives_0 rfl (lv_at hl 1 rfl) ?_
  refine lv_if_lt (tgt := 31) hx hb dX11_lives_1 (by decide) (fun h => absurd h hs0) (fun _ => ?_)
  refine lv_iload_n hx hb dX11_lives_4 rfl (lv_at hl 1 rfl) ?_
  refine lv_sipush (v := 9999) hx hb dX11_lives_5 (by decide) ?_
  refine lv_icmp_gt (tgt := 31) hx hb dX11_lives_8 (by decide) (fun h => absurd h hs1) (fun _ => ?_)
  refine lv_iload_n hx hb dX11_lives_11 rfl (lv_at hl 2 rfl) ?_
  refine lv_iconst (v := 1) hx hb dX11_lives_12 (by decide) ?_
  refine lv_icmp_lt (tgt := 31) hx hb dX11_lives_13 (by decide) (fun h => absurd h hs2) (fun _ => ?_)
  refine lv_iload_n hx hb dX11_lives_16 rfl (lv_at hl 2 rfl) ?_
  refine lv_bipush (v := 99) hx hb dX11_lives_17 (by decide) ?_
  refine lv_icmp_gt (tgt := 31) hx hb dX11_lives_19 (by decide) (fun h => absurd h hs3) (fun _ => ?_)
  refine lv_iload_n hx hb dX11_lives_22 rfl (lv_at hl 3 rfl) ?_
  refine lv_if_lt (tgt := 31) hx hb dX11_lives_23 (by decide) (fun h => absurd h h1) (fun _ => ?_)
  refine lv_iload_n hx hb dX11_lives_26 rfl (lv_at hl 3 rfl) ?_
  refine lv_iconst (v := 2) hx hb dX11_lives_27 (by decide) ?_
  refine lv_icmp_le (tgt := 39) hx hb dX11_lives_28 (by decide) (fun h => absurd h (fun h9 => absurd h2 (Int32.not_lt.mpr h9))) (fun _ => ?_)
  exact k_throw hC hl9 hw hl.1 hT hlocks dX11_lives_31 dX11_lives_34 dX11_lives_35 dX11_lives_38 (by decide) (Nat.le_of_ble_eq_true rfl) (by decide) (by decide) (by decide) (by decide)


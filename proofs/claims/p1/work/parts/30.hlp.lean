theorem dL_judged_0 : decode cL_judged 0 = .ok (.aload_n 2, 1) := by decide +kernel
theorem dL_judged_1 : decode cL_judged 1 = .ok (.iconst 0, 1) := by decide +kernel
theorem dL_judged_2 : decode cL_judged 2 = .ok (.aload_n 0, 1) := by decide +kernel
theorem dL_judged_3 : decode cL_judged 3 = .ok (.iload_n 1, 1) := by decide +kernel
theorem dL_judged_4 : decode cL_judged 4 = .ok (.invokevirtual 7, 3) := by decide +kernel
theorem dL_judged_7 : decode cL_judged 7 = .ok (.i2l, 1) := by decide +kernel
theorem dL_judged_8 : decode cL_judged 8 = .ok (.lastore, 1) := by decide +kernel
theorem dL_judged_9 : decode cL_judged 9 = .ok (.goto 6, 3) := by decide +kernel
theorem dL_judged_12 : decode cL_judged 12 = .ok (.astore_n 3, 1) := by decide +kernel
theorem dL_judged_13 : decode cL_judged 13 = .ok (.iconst 1, 1) := by decide +kernel
theorem dL_judged_14 : decode cL_judged 14 = .ok (.ireturn, 1) := by decide +kernel
theorem dL_judged_15 : decode cL_judged 15 = .ok (.iconst 0, 1) := by decide +kernel
theorem dL_judged_16 : decode cL_judged 16 = .ok (.ireturn, 1) := by decide +kernel
theorem dL_best_0 : decode cL_best 0 = .ok (.aload 4, 2) := by decide +kernel
theorem dL_best_2 : decode cL_best 2 = .ok (.iconst 0, 1) := by decide +kernel
theorem dL_best_3 : decode cL_best 3 = .ok (.aload_n 0, 1) := by decide +kernel
theorem dL_best_4 : decode cL_best 4 = .ok (.iload_n 1, 1) := by decide +kernel
theorem dL_best_5 : decode cL_best 5 = .ok (.iload_n 2, 1) := by decide +kernel
theorem dL_best_6 : decode cL_best 6 = .ok (.iload_n 3, 1) := by decide +kernel
theorem dL_best_7 : decode cL_best 7 = .ok (.invokevirtual 15, 3) := by decide +kernel
theorem dL_best_10 : decode cL_best 10 = .ok (.i2l, 1) := by decide +kernel
theorem dL_best_11 : decode cL_best 11 = .ok (.lastore, 1) := by decide +kernel
theorem dL_best_12 : decode cL_best 12 = .ok (.goto 7, 3) := by decide +kernel
theorem dL_best_15 : decode cL_best 15 = .ok (.astore 5, 2) := by decide +kernel
theorem dL_best_17 : decode cL_best 17 = .ok (.iconst 1, 1) := by decide +kernel
theorem dL_best_18 : decode cL_best 18 = .ok (.ireturn, 1) := by decide +kernel
theorem dL_best_19 : decode cL_best 19 = .ok (.iconst 0, 1) := by decide +kernel
theorem dL_best_20 : decode cL_best 20 = .ok (.ireturn, 1) := by decide +kernel
theorem dL_lives_0 : decode cL_lives 0 = .ok (.aload 4, 2) := by decide +kernel
theorem dL_lives_2 : decode cL_lives 2 = .ok (.iconst 0, 1) := by decide +kernel
theorem dL_lives_3 : decode cL_lives 3 = .ok (.aload_n 0, 1) := by decide +kernel
theorem dL_lives_4 : decode cL_lives 4 = .ok (.iload_n 1, 1) := by decide +kernel
theorem dL_lives_5 : decode cL_lives 5 = .ok (.iload_n 2, 1) := by decide +kernel
theorem dL_lives_6 : decode cL_lives 6 = .ok (.iload_n 3, 1) := by decide +kernel
theorem dL_lives_7 : decode cL_lives 7 = .ok (.invokevirtual 23, 3) := by decide +kernel
theorem dL_lives_10 : decode cL_lives 10 = .ok (.i2l, 1) := by decide +kernel
theorem dL_lives_11 : decode cL_lives 11 = .ok (.lastore, 1) := by decide +kernel
theorem dL_lives_12 : decode cL_lives 12 = .ok (.goto 7, 3) := by decide +kernel
theorem dL_lives_15 : decode cL_lives 15 = .ok (.astore 5, 2) := by decide +kernel
theorem dL_lives_17 : decode cL_lives 17 = .ok (.iconst 1, 1) := by decide +kernel
theorem dL_lives_18 : decode cL_lives 18 = .ok (.ireturn, 1) := by decide +kernel
theorem dL_lives_19 : decode cL_lives 19 = .ok (.iconst 0, 1) := by decide +kernel
theorem dL_lives_20 : decode cL_lives 20 = .ok (.ireturn, 1) := by decide +kernel
set_option maxHeartbeats 4000000 in
set_option maxRecDepth 100000 in
theorem c_L_judged_0 (γ : kΓ) (l : Launch) (hl9 : l.stackTraces = false) (x : Nat) (x0 : Nat) (x1 : Nat) (x2 : Nat) (x3 : Nat) (x4 : Nat) (x5 : Nat) (x6 : Nat) (x7 : Nat) (x8 : Nat) (x9 : Nat) (x10 : Nat) (x90 : Nat) (x91 : Nat) (x92 : Nat) (x93 : Nat) (x94 : Nat) (x95 : Nat) (x96 : Nat) (x97 : Nat) (x4s : Nat) (x4s_l : Nat) (x4s_c : Nat) (x4s_g : Nat) (x4s_r : Nat) (x4s_k : Nat) (x4s_b : Nat) (fx4s_l : Nat → Int32) (fx4s_c : Nat → Int32) (fx4s_g : Nat → Int32) (fx4s_r : Nat → Int64) (fx4s_k : Nat → Int32) (fx4s_b : Nat → Int32) (x2s : Nat) (x2y : Nat) (x2q : Nat) (ou : Nat) (fo : Nat → Int64) : kMW γ l yL_judged cL_judged 4 (some .int) [(0, 9, 12, 13)] ({ frames := 4, cells := 0, slots := 0, locals := 92 } : Room) [.ref x, .int 0, .ref ou] [(x, .inr (10, [.ref x0, .ref x1, .ref x2, .ref x3, .ref x4, .ref x5, .ref x6, .ref x7, .ref x8, .ref x9, .ref x10])), (x9, .inr (0, [.ref x90, .ref x91, .ref x92, .ref x93, .ref x94, .ref x95, .ref x96, .ref x97, .int 0, .int 0, .int 10, .int 10, .int 3, .int 0, .int 0, .int 0, .int 0, .int 0, .int 0])), (x4, .inr (2, [.ref x4s, .int 0, .int 0, .int 0, .long 0])), (x4s, .inr (7, [.ref x4s_l, .ref x4s_c, .ref x4s_g, .ref x4s_r, .ref x4s_k, .ref x4s_b, .int 0, .int 0, .int 0])), (x4s_l, .inl (γ.2.1 0, 5, .inl fx4s_l)), (x4s_c, .inl (γ.2.1 0, 5, .inl fx4s_c)), (x4s_g, .inl (γ.2.1 0, 5, .inl fx4s_g)), (x4s_r, .inl (γ.2.1 1, 5, .inr (.inl fx4s_r))), (x4s_k, .inl (γ.2.1 0, 40, .inl fx4s_k)), (x4s_b, .inl (γ.2.1 0, 8, .inl fx4s_b)), (x2, .inr (3, [.ref x2s, .ref x2y, .ref x2q, .int 0, .int 0, .int 0])), (ou, .inl (γ.2.1 1, 1, .inr (.inl fo)))] (fun r w1 => ∃ (fo9 : Nat → Int64), r = some (.int 0) ∧ w1 = [(ou, .inl (γ.2.1 1, 1, .inr (.inl fo9)))] ∧ (fo9 0 = ((-1) : Int32).toInt64)) := by
  refine k_ofWW (by decide) (Nat.le_of_ble_eq_true rfl) ?_
  intro p e s m below meth c A ls hC hr hlocks htab hw hl
  have hx := hC.1
  have hb := hC.2.1
  have hl : lv_has ls 4 [(0, .ref x), (1, .int 0), (2, .ref ou)] := hl
  refine lv_aload_n hx hb dL_judged_0 rfl (lv_at hl 2 rfl) ?_
  refine lv_iconst (v := 0) hx hb dL_judged_1 (by decide) ?_
  refine lv_aload_n hx hb dL_judged_2 rfl (lv_at hl 0 rfl) ?_
  refine lv_iload_n hx hb dL_judged_3 rfl (lv_at hl 1 rfl) ?_
  refine k_V (wr := [(ou, .inl (γ.2.1 1, 1, .inr (.inl fo)))]) 1 gw_1025 gw_1026 gw_1027 gw_1 gw_1028 hd_X11_judged hC hw (c_X11_judged_0 γ l x x0 x1 x2 x3 x4 x5 x6 x7 x8 x9 x10 x90 x91 x92 x93 x94 x95 x96 x97 x4s x4s_l x4s_c x4s_g x4s_r x4s_k x4s_b fx4s_l fx4s_c fx4s_g fx4s_r fx4s_k fx4s_b x2s x2y x2q) ⟨by decide, by decide⟩ ⟨by decide, by decide⟩ hl.1 rfl 0 rfl rfl rfl (Nat.le_of_ble_eq_true rfl) [0, 1, 2, 3, 4, 5, 6, 7, 8, 9, 10] [11] rfl rfl rfl rfl (by decide) dL_judged_4 (fun r w1 H locs hq hw => ?_)
  obtain ⟨rfl, rfl⟩ := hq
  have hw : kW γ A [(ou, .inl (γ.2.1 1, 1, .inr (.inl fo)))] s H locs := hw
  refine W.eq (g2 := F0 m 7 ls [.int (-1), .int 0, .ref ou]) rfl ?_
  refine lv_i2l hx hb dL_judged_7 rfl ?_
  refine lv_topl (fun x_1705 ex_1705 => ?_)
  refine k_last hC hw 0 rfl (k_in0 (by decide)) dL_judged_8 (fun H locs hw => ?_)
  obtain ⟨f_1706, ef_1706⟩ : ∃ g, g = vp_updL fo (0 : Int32).toNatClampNeg x_1705 := ⟨_, rfl⟩
  have hw : kW γ A [(ou, .inl (γ.2.1 1, 1, .inr (.inl f_1706)))] s H locs := by rw [ef_1706]; exact hw
  have h_1707 : f_1706 0 = x_1705 := by rw [ef_1706]; rfl
  refine lv_goto (tgt := 15) hx hb dL_judged_9 (by decide) ?_
  refine lv_iconst (v := 0) hx hb dL_judged_15 (by decide) ?_
  exact k_iret hC hr hlocks hw [0] rfl rfl ⟨f_1706, rfl, rfl, (by rw [ef_1706, ex_1705]; rfl)⟩ (by decide) (by decide) dL_judged_16

set_option maxHeartbeats 4000000 in
set_option maxRecDepth 100000 in
theorem c_L_judged_1 (γ : kΓ) (l : Launch) (hl9 : l.stackTraces = false) (x : Nat) (x0 : Nat) (x1 : Nat) (x2 : Nat) (x3 : Nat) (x4 : Nat) (x5 : Nat) (x6 : Nat) (x7 : Nat) (x8 : Nat) (x9 : Nat) (x10 : Nat) (x90 : Nat) (x91 : Nat) (x92 : Nat) (x93 : Nat) (x94 : Nat) (x95 : Nat) (x96 : Nat) (x97 : Nat) (x4s : Nat) (x4s_l : Nat) (x4s_c : Nat) (x4s_g : Nat) (x4s_r : Nat) (x4s_k : Nat) (x4s_b : Nat) (fx4s_l : Nat → Int32) (fx4s_c : Nat → Int32) (fx4s_g : Nat → Int32) (fx4s_r : Nat → Int64) (fx4s_k : Nat → Int32) (fx4s_b : Nat → Int32) (x2s : Nat) (x2y : Nat) (x2q : Nat) (ou : Nat) (fo : Nat → Int64) : kMW γ l yL_judged cL_judged 4 (some .int) [(0, 9, 12, 13)] ({ frames := 4, cells := 0, slots := 0, locals := 92 } : Room) [.ref x, .int 1, .ref ou] [(x, .inr (10, [.ref x0, .ref x1, .ref x2, .ref x3, .ref x4, .ref x5, .ref x6, .ref x7, .ref x8, .ref x9, .ref x10])), (x9, .inr (0, [.ref x90, .ref x91, .ref x92, .ref x93, .ref x94, .ref x95, .ref x96, .ref x97, .int 0, .int 0, .int 10, .int 10, .int 3, .int 0, .int 0, .int 0, .int 0, .int 0, .int 0])), (x4, .inr (2, [.ref x4s, .int 0, .int 0, .int 0, .long 0])), (x4s, .inr (7, [.ref x4s_l, .ref x4s_c, .ref x4s_g, .ref x4s_r, .ref x4s_k, .ref x4s_b, .int 0, .int 0, .int 0])), (x4s_l, .inl (γ.2.1 0, 5, .inl fx4s_l)), (x4s_c, .inl (γ.2.1 0, 5, .inl fx4s_c)), (x4s_g, .inl (γ.2.1 0, 5, .inl fx4s_g)), (x4s_r, .inl (γ.2.1 1, 5, .inr (.inl fx4s_r))), (x4s_k, .inl (γ.2.1 0, 40, .inl fx4s_k)), (x4s_b, .inl (γ.2.1 0, 8, .inl fx4s_b)), (x2, .inr (3, [.ref x2s, .ref x2y, .ref x2q, .int 0, .int 0, .int 0])), (ou, .inl (γ.2.1 1, 1, .inr (.inl fo)))] (fun r w1 => ∃ (fo9 : Nat → Int64), r = some (.int 0) ∧ w1 = [(ou, .inl (γ.2.1 1, 1, .inr (.inl fo9)))] ∧ (fo9 0 = ((-1) : Int32).toInt64)) := by
  refine k_ofWW (by decide) (Nat.le_of_ble_eq_true rfl) ?_
  intro p e s m below meth c A ls hC hr hlocks htab hw hl
  have hx := hC.1
  have hb := hC.2.1
  have hl : lv_has ls 4 [(0, .ref x), (1, .int 1), (2, .ref ou)] := hl
  refine lv_aload_n hx hb dL_judged_0 rfl (lv_at hl 2 rfl) ?_
  refine lv_iconst (v := 0) hx hb dL_judged_1 (by decide) ?_
  refine lv_aload_n hx hb dL_judged_2 rfl (lv_at hl 0 rfl) ?_
  refine lv_iload_n hx hb dL_judged_3 rfl (lv_at hl 1 rfl) ?_
  refine k_V (wr := [(ou, .inl (γ.2.1 1, 1, .inr (.inl fo)))]) 1 gw_1025 gw_1026 gw_1027 gw_1 gw_1028 hd_X11_judged hC hw (c_X11_judged_1 γ l x x0 x1 x2 x3 x4 x5 x6 x7 x8 x9 x10 x90 x91 x92 x93 x94 x95 x96 x97 x4s x4s_l x4s_c x4s_g x4s_r x4s_k x4s_b fx4s_l fx4s_c fx4s_g fx4s_r fx4s_k fx4s_b x2s x2y x2q) ⟨by decide, by decide⟩ ⟨by decide, by decide⟩ hl.1 rfl 0 rfl rfl rfl (Nat.le_of_ble_eq_true rfl) [0, 1, 2, 3, 4, 5, 6, 7, 8, 9, 10] [11] rfl rfl rfl rfl (by decide) dL_judged_4 (fun r w1 H locs hq hw => ?_)
  obtain ⟨rfl, rfl⟩ := hq
  have hw : kW γ A [(ou, .inl (γ.2.1 1, 1, .inr (.inl fo)))] s H locs := hw
  refine W.eq (g2 := F0 m 7 ls [.int (-1), .int 0, .ref ou]) rfl ?_
  refine lv_i2l hx hb dL_judged_7 rfl ?_
  refine lv_topl (fun x_1708 ex_1708 => ?_)
  refine k_last hC hw 0 rfl (k_in0 (by decide)) dL_judged_8 (fun H locs hw => ?_)
  obtain ⟨f_1709, ef_1709⟩ : ∃ g, g = vp_updL fo (0 : Int32).toNatClampNeg x_1708 := ⟨_, rfl⟩
  have hw : kW γ A [(ou, .inl (γ.2.1 1, 1, .inr (.inl f_1709)))] s H locs := by rw [ef_1709]; exact hw
  have h_1710 : f_1709 0 = x_1708 := by rw [ef_1709]; rfl
  refine lv_goto (tgt := 15) hx hb dL_judged_9 (by decide) ?_
  refine lv_iconst (v := 0) hx hb dL_judged_15 (by decide) ?_
  exact k_iret hC hr hlocks hw [0] rfl rfl ⟨f_1709, rfl, rfl, (by rw [ef_1709, ex_1708]; rfl)⟩ (by decide) (by decide) dL_judged_16

set_option maxHeartbeats 4000000 in
set_option maxRecDepth 100000 in
theorem c_L_judged_2 (γ : kΓ) (l : Launch) (hl9 : l.stackTraces = false) (x : Nat) (x0 : Nat) (x1 : Nat) (x2 : Nat) (x3 : Nat) (x4 : Nat) (x5 : Nat) (x6 : Nat) (x7 : Nat) (x8 : Nat) (x9 : Nat) (x10 : Nat) (x90 : Nat) (x91 : Nat) (x92 : Nat) (x93 : Nat) (x94 : Nat) (x95 : Nat) (x96 : Nat) (x97 : Nat) (x4s : Nat) (x4s_l : Nat) (x4s_c : Nat) (x4s_g : Nat) (x4s_r : Nat) (x4s_k : Nat) (x4s_b : Nat) (fx4s_l : Nat → Int32) (fx4s_c : Nat → Int32) (fx4s_g : Nat → Int32) (fx4s_r : Nat → Int64) (fx4s_k : Nat → Int32) (fx4s_b : Nat → Int32) (x2s : Nat) (x2y : Nat) (x2q : Nat) (ou : Nat) (fo : Nat → Int64) : kMW γ l yL_judged cL_judged 4 (some .int) [(0, 9, 12, 13)] ({ frames := 4, cells := 0, slots := 0, locals := 92 } : Room) [.ref x, .int 2, .ref ou] [(x, .inr (10, [.ref x0, .ref x1, .ref x2, .ref x3, .ref x4, .ref x5, .ref x6, .ref x7, .ref x8, .ref x9, .ref x10])), (x9, .inr (0, [.ref x90, .ref x91, .ref x92, .ref x93, .ref x94, .ref x95, .ref x96, .ref x97, .int 0, .int 0, .int 10, .int 10, .int 3, .int 0, .int 0, .int 0, .int 0, .int 0, .int 0])), (x4, .inr (2, [.ref x4s, .int 0, .int 0, .int 0, .long 0])), (x4s, .inr (7, [.ref x4s_l, .ref x4s_c, .ref x4s_g, .ref x4s_r, .ref x4s_k, .ref x4s_b, .int 0, .int 0, .int 0])), (x4s_l, .inl (γ.2.1 0, 5, .inl fx4s_l)), (x4s_c, .inl (γ.2.1 0, 5, .inl fx4s_c)), (x4s_g, .inl (γ.2.1 0, 5, .inl fx4s_g)), (x4s_r, .inl (γ.2.1 1, 5, .inr (.inl fx4s_r))), (x4s_k, .inl (γ.2.1 0, 40, .inl fx4s_k)), (x4s_b, .inl (γ.2.1 0, 8, .inl fx4s_b)), (x2, .inr (3, [.ref x2s, .ref x2y, .ref x2q, .int 0, .int 0, .int 0])), (ou, .inl (γ.2.1 1, 1, .inr (.inl fo)))] (fun r w1 => ∃ (fo9 : Nat → Int64), r = some (.int 0) ∧ w1 = [(ou, .inl (γ.2.1 1, 1, .inr (.inl fo9)))] ∧ (fo9 0 = (0 : Int32).toInt64)) := by
  refine k_ofWW (by decide) (Nat.le_of_ble_eq_true rfl) ?_
  intro p e s m below meth c A ls hC hr hlocks htab hw hl
  have hx := hC.1
  have hb := hC.2.1
  have hl : lv_has ls 4 [(0, .ref x), (1, .int 2), (2, .ref ou)] := hl
  refine lv_aload_n hx hb dL_judged_0 rfl (lv_at hl 2 rfl) ?_
  refine lv_iconst (v := 0) hx hb dL_judged_1 (by decide) ?_
  refine lv_aload_n hx hb dL_judged_2 rfl (lv_at hl 0 rfl) ?_
  refine lv_iload_n hx hb dL_judged_3 rfl (lv_at hl 1 rfl) ?_
  refine k_V (wr := [(ou, .inl (γ.2.1 1, 1, .inr (.inl fo)))]) 1 gw_1025 gw_1026 gw_1027 gw_1 gw_1028 hd_X11_judged hC hw (c_X11_judged_2 γ l x x0 x1 x2 x3 x4 x5 x6 x7 x8 x9 x10 x90 x91 x92 x93 x94 x95 x96 x97 x4s x4s_l x4s_c x4s_g x4s_r x4s_k x4s_b fx4s_l fx4s_c fx4s_g fx4s_r fx4s_k fx4s_b x2s x2y x2q) ⟨by decide, by decide⟩ ⟨by decide, by decide⟩ hl.1 rfl 0 rfl rfl rfl (Nat.le_of_ble_eq_true rfl) [0, 1, 2, 3, 4, 5, 6, 7, 8, 9, 10] [11] rfl rfl rfl rfl (by decide) dL_judged_4 (fun r w1 H locs hq hw => ?_)
  obtain ⟨rfl, rfl⟩ := hq
  have hw : kW γ A [(ou, .inl (γ.2.1 1, 1, .inr (.inl fo)))] s H locs := hw
  refine W.eq (g2 := F0 m 7 ls [.int 0, .int 0, .ref ou]) rfl ?_
  refine lv_i2l hx hb dL_judged_7 rfl ?_
  refine lv_topl (fun x_1711 ex_1711 => ?_)
  refine k_last hC hw 0 rfl (k_in0 (by decide)) dL_judged_8 (fun H locs hw => ?_)
  obtain ⟨f_1712, ef_1712⟩ : ∃ g, g = vp_updL fo (0 : Int32).toNatClampNeg x_1711 := ⟨_, rfl⟩
  have hw : kW γ A [(ou, .inl (γ.2.1 1, 1, .inr (.inl f_1712)))] s H locs := by rw [ef_1712]; exact hw
  have h_1713 : f_1712 0 = x_1711 := by rw [ef_1712]; rfl
  refine lv_goto (tgt := 15) hx hb dL_judged_9 (by decide) ?_
  refine lv_iconst (v := 0) hx hb dL_judged_15 (by decide) ?_
  exact k_iret hC hr hlocks hw [0] rfl rfl ⟨f_1712, rfl, rfl, (by rw [ef_1712, ex_1711]; rfl)⟩ (by decide) (by decide) dL_judged_16

set_option maxHeartbeats 4000000 in
set_option maxRecDepth 100000 in
theorem c_L_judged_l (γ : kΓ) (l : Launch) (hl9 : l.stackTraces = false) (x : Nat) (x0 : Nat) (x1 : Nat) (x2 : Nat) (x3 : Nat) (x4 : Nat) (x5 : Nat) (x6 : Nat) (x7 : Nat) (x8 : Nat) (x9 : Nat) (x10 : Nat) (t : Int32) (ou : Nat) (fo : Nat → Int64) (h1 : t < 0) : kMW γ l yL_judged cL_judged 4 (some .int) [(0, 9, 12, 13)] ({ frames := 7, cells := 1, slots := 6, locals := 121 } : Room) [.ref x, .int t, .ref ou] [(x, .inr (10, [.ref x0, .ref x1, .ref x2, .ref x3, .ref x4, .ref x5, .ref x6, .ref x7, .ref x8, .ref x9, .ref x10])), (ou, .inl (γ.2.1 1, 1, .inr (.inl fo)))] (fun r w1 => r = some (.int 1) ∧ w1 = [(ou, .inl (γ.2.1 1, 1, .inr (.inl fo)))]) := by
  refine k_ofWW (by decide) (Nat.le_of_ble_eq_true rfl) ?_
  intro p e s m below meth c A ls hC hr hlocks htab hw hl
  have hx := hC.1
  have hb := hC.2.1
  have hl : lv_has ls 4 [(0, .ref x), (1, .int t), (2, .ref ou)] := hl
  refine lv_aload_n hx hb dL_judged_0 rfl (lv_at hl 2 rfl) ?_
  refine lv_iconst (v := 0) hx hb dL_judged_1 (by decide) ?_
  refine lv_aload_n hx hb dL_judged_2 rfl (lv_at hl 0 rfl) ?_
  refine lv_iload_n hx hb dL_judged_3 rfl (lv_at hl 1 rfl) ?_
  refine k_VX (wr := [(ou, .inl (γ.2.1 1, 1, .inr (.inl fo)))]) 1 gw_1025 gw_1026 gw_1027 gw_1 gw_1028 hd_X11_judged hC hw (c_X11_judged_l γ l hl9 x x0 x1 x2 x3 x4 x5 x6 x7 x8 x9 x10 t h1) ⟨by decide, by decide⟩ ⟨by decide, by decide⟩ hl.1 rfl 0 rfl rfl rfl (Nat.le_of_ble_eq_true rfl) [0] [1] rfl rfl rfl rfl (by decide) dL_judged_4 _ _ htab (by decide) (by decide) gw_1024 nw_1031 (fun q9 H locs hw => ?_)
  have hw : kW γ A [(ou, .inl (γ.2.1 1, 1, .inr (.inl fo)))] s H locs := hw
  refine W.eq (g2 := F0 m 12 ls [.ref q9]) rfl ?_
  refine W.widen (k := 1) (n := 6) (by decide) (by decide) ?_
  refine lv_astore_n (lv' := [(3, .ref q9), (0, .ref x), (1, .int t), (2, .ref ou)]) hx hb dL_judged_12 rfl hl (by decide) rfl (fun ls hl => ?_)
  refine lv_iconst (v := 1) hx hb dL_judged_13 (by decide) ?_
  exact k_iret hC hr hlocks hw [0] rfl rfl ⟨rfl, rfl⟩ (by decide) (by decide) dL_judged_14

set_option maxHeartbeats 4000000 in
set_option maxRecDepth 100000 in
theorem c_L_judged_h (γ : kΓ) (l : Launch) (hl9 : l.stackTraces = false) (x : Nat) (x0 : Nat) (x1 : Nat) (x2 : Nat) (x3 : Nat) (x4 : Nat) (x5 : Nat) (x6 : Nat) (x7 : Nat) (x8 : Nat) (x9 : Nat) (x10 : Nat) (t : Int32) (ou : Nat) (fo : Nat → Int64) (h1 : ¬ t < 0) (h2 : 2 < t) : kMW γ l yL_judged cL_judged 4 (some .int) [(0, 9, 12, 13)] ({ frames := 7, cells := 1, slots := 6, locals := 121 } : Room) [.ref x, .int t, .ref ou] [(x, .inr (10, [.ref x0, .ref x1, .ref x2, .ref x3, .ref x4, .ref x5, .ref x6, .ref x7, .ref x8, .ref x9, .ref x10])), (ou, .inl (γ.2.1 1, 1, .inr (.inl fo)))] (fun r w1 => r = some (.int 1) ∧ w1 = [(ou, .inl (γ.2.1 1, 1, .inr (.inl fo)))]) := by
  refine k_ofWW (by decide) (Nat.le_of_ble_eq_true rfl) ?_
  intro p e s m below meth c A ls hC hr hlocks htab hw hl
  have hx := hC.1
  have hb := hC.2.1
  have hl : lv_has ls 4 [(0, .ref x), (1, .int t), (2, .ref ou)] := hl
  refine lv_aload_n hx hb dL_judged_0 rfl (lv_at hl 2 rfl) ?_
  refine lv_iconst (v := 0) hx hb dL_judged_1 (by decide) ?_
  refine lv_aload_n hx hb dL_judged_2 rfl (lv_at hl 0 rfl) ?_
  refine lv_iload_n hx hb dL_judged_3 rfl (lv_at hl 1 rfl) ?_
  refine k_VX (wr := [(ou, .inl (γ.2.1 1, 1, .inr (.inl fo)))]) 1 gw_1025 gw_1026 gw_1027 gw_1 gw_1028 hd_X11_judged hC hw (c_X11_judged_h γ l hl9 x x0 x1 x2 x3 x4 x5 x6 x7 x8 x9 x10 t h1 h2) ⟨by decide, by decide⟩ ⟨by decide, by decide⟩ hl.1 rfl 0 rfl rfl rfl (Nat.le_of_ble_eq_true rfl) [0] [1] rfl rfl rfl rfl (by decide) dL_judged_4 _ _ htab (by decide) (by decide) gw_1024 nw_1031 (fun q9 H locs hw => ?_)
  have hw : kW γ A [(ou, .inl (γ.2.1 1, 1, .inr (.inl fo)))] s H locs := hw
  refine W.eq (g2 := F0 m 12 ls [.ref q9]) rfl ?_
  refine W.widen (k := 1) (n := 6) (by decide) (by decide) ?_
  refine lv_astore_n (lv' := [(3, .ref q9), (0, .ref x), (1, .int t), (2, .ref ou)]) hx hb dL_judged_12 rfl hl (by decide) rfl (fun ls hl => ?_)
  refine lv_iconst (v := 1) hx hb dL_judged_13 (by decide) ?_
  exact k_iret hC hr hlocks hw [0] rfl rfl ⟨rfl, rfl⟩ (by decide) (by decide) dL_judged_14

set_option maxHeartbeats 4000000 in
set_option maxRecDepth 100000 in
theorem c_L_best (γ : kΓ) (l : Launch) (hl9 : l.stackTraces = false) (x : Nat) (x0 : Nat) (x1 : Nat) (x2 : Nat) (x3 : Nat) (x4 : Nat) (x5 : Nat) (x6 : Nat) (x7 : Nat) (x8 : Nat) (x9 : Nat) (x10 : Nat) (x90 : Nat) (x91 : Nat) (x92 : Nat) (x93 : Nat) (x94 : Nat) (x95 : Nat) (x96 : Nat) (x97 : Nat) (t : Int32) (u : Int32) (v : Int32) (ou : Nat) (fo : Nat → Int64) : kMW γ l yL_best cL_best 6 (some .int) [(0, 12, 15, 13)] ({ frames := 7, cells := 1, slots := 6, locals := 124 } : Room) [.ref x, .int t, .int u, .int v, .ref ou] [(x, .inr (10, [.ref x0, .ref x1, .ref x2, .ref x3, .ref x4, .ref x5, .ref x6, .ref x7, .ref x8, .ref x9, .ref x10])), (x9, .inr (0, [.ref x90, .ref x91, .ref x92, .ref x93, .ref x94, .ref x95, .ref x96, .ref x97, .int 0, .int 0, .int 10, .int 10, .int 3, .int 0, .int 0, .int 0, .int 0, .int 0, .int 0])), (ou, .inl (γ.2.1 1, 1, .inr (.inl fo)))] (fun r w1 => r = some (.int 1) ∧ w1 = [(ou, .inl (γ.2.1 1, 1, .inr (.inl fo)))]) := by
  refine k_ofWW (by decide) (Nat.le_of_ble_eq_true rfl) ?_
  intro p e s m below meth c A ls hC hr hlocks htab hw hl
  have hx := hC.1
  have hb := hC.2.1
  have hl : lv_has ls 6 [(0, .ref x), (1, .int t), (2, .int u), (3, .int v), (4, .ref ou)] := hl
  refine lv_aload hx hb dL_best_0 (lv_at hl 4 rfl) ?_
  refine lv_iconst (v := 0) hx hb dL_best_2 (by decide) ?_
  refine lv_aload_n hx hb dL_best_3 rfl (lv_at hl 0 rfl) ?_
  refine lv_iload_n hx hb dL_best_4 rfl (lv_at hl 1 rfl) ?_
  refine lv_iload_n hx hb dL_best_5 rfl (lv_at hl 2 rfl) ?_
  refine lv_iload_n hx hb dL_best_6 rfl (lv_at hl 3 rfl) ?_
  refine k_VX (wr := [(ou, .inl (γ.2.1 1, 1, .inr (.inl fo)))]) 3 gw_1097 gw_1098 gw_1099 gw_1 gw_1100 hd_X11_best hC hw (c_X11_best γ l hl9 x x0 x1 x2 x3 x4 x5 x6 x7 x8 x9 x10 x90 x91 x92 x93 x94 x95 x96 x97 t u v) ⟨by decide, by decide⟩ ⟨by decide, by decide⟩ hl.1 rfl 0 rfl rfl rfl (Nat.le_of_ble_eq_true rfl) [0, 1] [2] rfl rfl rfl rfl (by decide) dL_best_7 _ _ htab (by decide) (by decide) gw_1024 nw_1031 (fun q9 H locs hw => ?_)
  have hw : kW γ A [(ou, .inl (γ.2.1 1, 1, .inr (.inl fo)))] s H locs := hw
  refine W.eq (g2 := F0 m 15 ls [.ref q9]) rfl ?_
  refine W.widen (k := 1) (n := 6) (by decide) (by decide) ?_
  refine lv_astore (lv' := [(5, .ref q9), (0, .ref x), (1, .int t), (2, .int u), (3, .int v), (4, .ref ou)]) hx hb dL_best_15 hl (by decide) rfl (fun ls hl => ?_)
  refine lv_iconst (v := 1) hx hb dL_best_17 (by decide) ?_
  exact k_iret hC hr hlocks hw [0] rfl rfl ⟨rfl, rfl⟩ (by decide) (by decide) dL_best_18

set_option maxHeartbeats 4000000 in
set_option maxRecDepth 100000 in
theorem c_L_lives_0 (γ : kΓ) (l : Launch) (hl9 : l.stackTraces = false) (x : Nat) (x0 : Nat) (x1 : Nat) (x2 : Nat) (x3 : Nat) (x4 : Nat) (x5 : Nat) (x6 : Nat) (x7 : Nat) (x8 : Nat) (x9 : Nat) (x10 : Nat) (x90 : Nat) (x91 : Nat) (x92 : Nat) (x93 : Nat) (x94 : Nat) (x95 : Nat) (x96 : Nat) (x97 : Nat) (x4s : Nat) (x4s_l : Nat) (x4s_c : Nat) (x4s_g : Nat) (x4s_r : Nat) (x4s_k : Nat) (x4s_b : Nat) (fx4s_l : Nat → Int32) (fx4s_c : Nat → Int32) (fx4s_g : Nat → Int32) (fx4s_r : Nat → Int64) (fx4s_k : Nat → Int32) (fx4s_b : Nat → Int32) (x2s : Nat) (x2y : Nat) (x2q : Nat) (x2s_l : Nat) (x2s_c : Nat) (x2s_g : Nat) (x2s_r : Nat) (x2s_k : Nat) (x2s_b : Nat) (fx2s_l : Nat → Int32) (fx2s_c : Nat → Int32) (fx2s_g : Nat → Int32) (fx2s_r : Nat → Int64) (fx2s_k : Nat → Int32) (fx2s_b : Nat → Int32) (sd : Int32) (sp : Int32) (ou : Nat) (fo : Nat → Int64) (hs0 : ¬ sd < 0) (hs1 : ¬ 9999 < sd) (hs2 : ¬ sp < 1) (hs3 : ¬ 99 < sp) (hz : ∀ j, j < 5 → fx2s_g j = 0) : kMW γ l yL_lives cL_lives 6 (some .int) [(0, 12, 15, 13)] ({ frames := 4, cells := 0, slots := 0, locals := 151 } : Room) [.ref x, .int sd, .int sp, .int 0, .ref ou] [(x, .inr (10, [.ref x0, .ref x1, .ref x2, .ref x3, .ref x4, .ref x5, .ref x6, .ref x7, .ref x8, .ref x9, .ref x10])), (x9, .inr (0, [.ref x90, .ref x91, .ref x92, .ref x93, .ref x94, .ref x95, .ref x96, .ref x97, .int 0, .int 0, .int 10, .int 10, .int 3, .int 0, .int 0, .int 0, .int 0, .int 0, .int 0])), (x4, .inr (2, [.ref x4s, .int 0, .int 0, .int 0, .long 0])), (x4s, .inr (7, [.ref x4s_l, .ref x4s_c, .ref x4s_g, .ref x4s_r, .ref x4s_k, .ref x4s_b, .int 0, .int 0, .int 0])), (x4s_l, .inl (γ.2.1 0, 5, .inl fx4s_l)), (x4s_c, .inl (γ.2.1 0, 5, .inl fx4s_c)), (x4s_g, .inl (γ.2.1 0, 5, .inl fx4s_g)), (x4s_r, .inl (γ.2.1 1, 5, .inr (.inl fx4s_r))), (x4s_k, .inl (γ.2.1 0, 40, .inl fx4s_k)), (x4s_b, .inl (γ.2.1 0, 8, .inl fx4s_b)), (x2, .inr (3, [.ref x2s, .ref x2y, .ref x2q, .int 0, .int 0, .int 0])), (x2s, .inr (7, [.ref x2s_l, .ref x2s_c, .ref x2s_g, .ref x2s_r, .ref x2s_k, .ref x2s_b, .int 0, .int 0, .int 0])), (x2s_l, .inl (γ.2.1 0, 5, .inl fx2s_l)), (x2s_c, .inl (γ.2.1 0, 5, .inl fx2s_c)), (x2s_g, .inl (γ.2.1 0, 5, .inl fx2s_g)), (x2s_r, .inl (γ.2.1 1, 5, .inr (.inl fx2s_r))), (x2s_k, .inl (γ.2.1 0, 40, .inl fx2s_k)), (x2s_b, .inl (γ.2.1 0, 8, .inl fx2s_b)), (ou, .inl (γ.2.1 1, 1, .inr (.inl fo)))] (fun r w1 => ∃ (fo9 : Nat → Int64), r = some (.int 0) ∧ w1 = [(ou, .inl (γ.2.1 1, 1, .inr (.inl fo9)))] ∧ (fo9 0 = (0 : Int32).toInt64)) := by
  refine k_ofWW (by decide) (Nat.le_of_ble_eq_true rfl) ?_
  intro p e s m below meth c A ls hC hr hlocks htab hw hl
  have hx := hC.1
  have hb := hC.2.1
  have hl : lv_has ls 6 [(0, .ref x), (1, .int sd), (2, .int sp), (3, .int 0), (4, .ref ou)] := hl
  refine lv_aload hx hb dL_lives_0 (lv_at hl 4 rfl) ?_
  refine lv_iconst (v := 0) hx hb dL_lives_2 (by decide) ?_
  refine lv_aload_n hx hb dL_lives_3 rfl (lv_at hl 0 rfl) ?_
  refine lv_iload_n hx hb dL_lives_4 rfl (lv_at hl 1 rfl) ?_
  refine lv_iload_n hx hb dL_lives_5 rfl (lv_at hl 2 rfl) ?_
  refine lv_iload_n hx hb dL_lives_6 rfl (lv_at hl 3 rfl) ?_
  refine k_V (wr := [(ou, .inl (γ.2.1 1, 1, .inr (.inl fo)))]) 3 gw_1165 gw_1166 gw_1167 gw_1 gw_1168 hd_X11_lives hC hw (c_X11_lives_0 γ l x x0 x1 x2 x3 x4 x5 x6 x7 x8 x9 x10 x90 x91 x92 x93 x94 x95 x96 x97 x4s x4s_l x4s_c x4s_g x4s_r x4s_k x4s_b fx4s_l fx4s_c fx4s_g fx4s_r fx4s_k fx4s_b x2s x2y x2q x2s_l x2s_c x2s_g x2s_r x2s_k x2s_b fx2s_l fx2s_c fx2s_g fx2s_r fx2s_k fx2s_b sd sp hs0 hs1 hs2 hs3 hz) ⟨by decide, by decide⟩ ⟨by decide, by decide⟩ hl.1 rfl 0 rfl rfl rfl (Nat.le_of_ble_eq_true rfl) [0, 1, 2, 3, 4, 5, 6, 7, 8, 9, 10, 11, 12, 13, 14, 15, 16, 17] [18] rfl rfl rfl rfl (by decide) dL_lives_7 (fun r w1 H locs hq hw => ?_)
  obtain ⟨rfl, rfl⟩ := hq
  have hw : kW γ A [(ou, .inl (γ.2.1 1, 1, .inr (.inl fo)))] s H locs := hw
  refine W.eq (g2 := F0 m 10 ls [.int 0, .int 0, .ref ou]) rfl ?_
  refine lv_i2l hx hb dL_lives_10 rfl ?_
  refine lv_topl (fun x_1714 ex_1714 => ?_)
  refine k_last hC hw 0 rfl (k_in0 (by decide)) dL_lives_11 (fun H locs hw => ?_)
  obtain ⟨f_1715, ef_1715⟩ : ∃ g, g = vp_updL fo (0 : Int32).toNatClampNeg x_1714 := ⟨_, rfl⟩
  have hw : kW γ A [(ou, .inl (γ.2.1 1, 1, .inr (.inl f_1715)))] s H locs := by rw [ef_1715]; exact hw
  have h_1716 : f_1715 0 = x_1714 := by rw [ef_1715]; rfl
  refine lv_goto (tgt := 19) hx hb dL_lives_12 (by decide) ?_
  refine lv_iconst (v := 0) hx hb dL_lives_19 (by decide) ?_
  exact k_iret hC hr hlocks hw [0] rfl rfl ⟨f_1715, rfl, rfl, (by rw [ef_1715, ex_1714]; rfl)⟩ (by decide) (by decide) dL_lives_20

set_option maxHeartbeats 4000000 in
set_option maxRecDepth 100000 in
theorem c_L_lives_1 (γ : kΓ) (l : Launch) (hl9 : l.stackTraces = false) (x : Nat) (x0 : Nat) (x1 : Nat) (x2 : Nat) (x3 : Nat) (x4 : Nat) (x5 : Nat) (x6 : Nat) (x7 : Nat) (x8 : Nat) (x9 : Nat) (x10 : Nat) (x90 : Nat) (x91 : Nat) (x92 : Nat) (x93 : Nat) (x94 : Nat) (x95 : Nat) (x96 : Nat) (x97 : Nat) (x4s : Nat) (x4s_l : Nat) (x4s_c : Nat) (x4s_g : Nat) (x4s_r : Nat) (x4s_k : Nat) (x4s_b : Nat) (fx4s_l : Nat → Int32) (fx4s_c : Nat → Int32) (fx4s_g : Nat → Int32) (fx4s_r : Nat → Int64) (fx4s_k : Nat → Int32) (fx4s_b : Nat → Int32) (x2s : Nat) (x2y : Nat) (x2q : Nat) (x2s_l : Nat) (x2s_c : Nat) (x2s_g : Nat) (x2s_r : Nat) (x2s_k : Nat) (x2s_b : Nat) (fx2s_l : Nat → Int32) (fx2s_c : Nat → Int32) (fx2s_g : Nat → Int32) (fx2s_r : Nat → Int64) (fx2s_k : Nat → Int32) (fx2s_b : Nat → Int32) (sd : Int32) (sp : Int32) (ou : Nat) (fo : Nat → Int64) (hs0 : ¬ sd < 0) (hs1 : ¬ 9999 < sd) (hs2 : ¬ sp < 1) (hs3 : ¬ 99 < sp) (hz : ∀ j, j < 5 → fx2s_g j = 0) : kMW γ l yL_lives cL_lives 6 (some .int) [(0, 12, 15, 13)] ({ frames := 4, cells := 0, slots := 0, locals := 151 } : Room) [.ref x, .int sd, .int sp, .int 1, .ref ou] [(x, .inr (10, [.ref x0, .ref x1, .ref x2, .ref x3, .ref x4, .ref x5, .ref x6, .ref x7, .ref x8, .ref x9, .ref x10])), (x9, .inr (0, [.ref x90, .ref x91, .ref x92, .ref x93, .ref x94, .ref x95, .ref x96, .ref x97, .int 0, .int 0, .int 10, .int 10, .int 3, .int 0, .int 0, .int 0, .int 0, .int 0, .int 0])), (x4, .inr (2, [.ref x4s, .int 0, .int 0, .int 0, .long 0])), (x4s, .inr (7, [.ref x4s_l, .ref x4s_c, .ref x4s_g, .ref x4s_r, .ref x4s_k, .ref x4s_b, .int 0, .int 0, .int 0])), (x4s_l, .inl (γ.2.1 0, 5, .inl fx4s_l)), (x4s_c, .inl (γ.2.1 0, 5, .inl fx4s_c)), (x4s_g, .inl (γ.2.1 0, 5, .inl fx4s_g)), (x4s_r, .inl (γ.2.1 1, 5, .inr (.inl fx4s_r))), (x4s_k, .inl (γ.2.1 0, 40, .inl fx4s_k)), (x4s_b, .inl (γ.2.1 0, 8, .inl fx4s_b)), (x2, .inr (3, [.ref x2s, .ref x2y, .ref x2q, .int 0, .int 0, .int 0])), (x2s, .inr (7, [.ref x2s_l, .ref x2s_c, .ref x2s_g, .ref x2s_r, .ref x2s_k, .ref x2s_b, .int 0, .int 0, .int 0])), (x2s_l, .inl (γ.2.1 0, 5, .inl fx2s_l)), (x2s_c, .inl (γ.2.1 0, 5, .inl fx2s_c)), (x2s_g, .inl (γ.2.1 0, 5, .inl fx2s_g)), (x2s_r, .inl (γ.2.1 1, 5, .inr (.inl fx2s_r))), (x2s_k, .inl (γ.2.1 0, 40, .inl fx2s_k)), (x2s_b, .inl (γ.2.1 0, 8, .inl fx2s_b)), (ou, .inl (γ.2.1 1, 1, .inr (.inl fo)))] (fun r w1 => ∃ (fo9 : Nat → Int64), r = some (.int 0) ∧ w1 = [(ou, .inl (γ.2.1 1, 1, .inr (.inl fo9)))] ∧ (fo9 0 = (0 : Int32).toInt64)) := by
  refine k_ofWW (by decide) (Nat.le_of_ble_eq_true rfl) ?_
  intro p e s m below meth c A ls hC hr hlocks htab hw hl
  have hx := hC.1
  have hb := hC.2.1
  have hl : lv_has ls 6 [(0, .ref x), (1, .int sd), (2, .int sp), (3, .int 1), (4, .ref ou)] := hl
  refine lv_aload hx hb dL_lives_0 (lv_at hl 4 rfl) ?_
  refine lv_iconst (v := 0) hx hb dL_lives_2 (by decide) ?_
  refine lv_aload_n hx hb dL_lives_3 rfl (lv_at hl 0 rfl) ?_
  refine lv_iload_n hx hb dL_lives_4 rfl (lv_at hl 1 rfl) ?_
  refine lv_iload_n hx hb dL_lives_5 rfl (lv_at hl 2 rfl) ?_
  refine lv_iload_n hx hb dL_lives_6 rfl (lv_at hl 3 rfl) ?_
  refine k_V (wr := [(ou, .inl (γ.2.1 1, 1, .inr (.inl fo)))]) 3 gw_1165 gw_1166 gw_1167 gw_1 gw_1168 hd_X11_lives hC hw (c_X11_lives_1 γ l x x0 x1 x2 x3 x4 x5 x6 x7 x8 x9 x10 x90 x91 x92 x93 x94 x95 x96 x97 x4s x4s_l x4s_c x4s_g x4s_r x4s_k x4s_b fx4s_l fx4s_c fx4s_g fx4s_r fx4s_k fx4s_b x2s x2y x2q x2s_l x2s_c x2s_g x2s_r x2s_k x2s_b fx2s_l fx2s_c fx2s_g fx2s_r fx2s_k fx2s_b sd sp hs0 hs1 hs2 hs3 hz) ⟨by decide, by decide⟩ ⟨by decide, by decide⟩ hl.1 rfl 0 rfl rfl rfl (Nat.le_of_ble_eq_true rfl) [0, 1, 2, 3, 4, 5, 6, 7, 8, 9, 10, 11, 12, 13, 14, 15, 16, 17] [18] rfl rfl rfl rfl (by decide) dL_lives_7 (fun r w1 H locs hq hw => ?_)
  obtain ⟨rfl, rfl⟩ := hq
  have hw : kW γ A [(ou, .inl (γ.2.1 1, 1, .inr (.inl fo)))] s H locs := hw
  refine W.eq (g2 := F0 m 10 ls [.int 0, .int 0, .ref ou]) rfl ?_
  refine lv_i2l hx hb dL_lives_10 rfl ?_
  refine lv_topl (fun x_1717 ex_1717 => ?_)
  refine k_last hC hw 0 rfl (k_in0 (by decide)) dL_lives_11 (fun H locs hw => ?_)
  obtain ⟨f_1718, ef_1718⟩ : ∃ g, g = vp_updL fo (0 : Int32).toNatClampNeg x_1717 := ⟨_, rfl⟩
  have hw : kW γ A [(ou, .inl (γ.2.1 1, 1, .inr (.inl f_1718)))] s H locs := by rw [ef_1718]; exact hw
  have h_1719 : f_1718 0 = x_1717 := by rw [ef_1718]; rfl
  refine lv_goto (tgt := 19) hx hb dL_lives_12 (by decide) ?_
  refine lv_iconst (v := 0) hx hb dL_lives_19 (by decide) ?_
  exact k_iret hC hr hlocks hw [0] rfl rfl ⟨f_1718, rfl, rfl, (by rw [ef_1718, ex_1717]; rfl)⟩ (by decide) (by decide) dL_lives_20

set_option maxHeartbeats 4000000 in
set_option maxRecDepth 100000 in
theorem c_L_lives_2 (γ : kΓ) (l : Launch) (hl9 : l.stackTraces = false) (x : Nat) (x0 : Nat) (x1 : Nat) (x2 : Nat) (x3 : Nat) (x4 : Nat) (x5 : Nat) (x6 : Nat) (x7 : Nat) (x8 : Nat) (x9 : Nat) (x10 : Nat) (x90 : Nat) (x91 : Nat) (x92 : Nat) (x93 : Nat) (x94 : Nat) (x95 : Nat) (x96 : Nat) (x97 : Nat) (x4s : Nat) (x4s_l : Nat) (x4s_c : Nat) (x4s_g : Nat) (x4s_r : Nat) (x4s_k : Nat) (x4s_b : Nat) (fx4s_l : Nat → Int32) (fx4s_c : Nat → Int32) (fx4s_g : Nat → Int32) (fx4s_r : Nat → Int64) (fx4s_k : Nat → Int32) (fx4s_b : Nat → Int32) (x2s : Nat) (x2y : Nat) (x2q : Nat) (x2s_l : Nat) (x2s_c : Nat) (x2s_g : Nat) (x2s_r : Nat) (x2s_k : Nat) (x2s_b : Nat) (fx2s_l : Nat → Int32) (fx2s_c : Nat → Int32) (fx2s_g : Nat → Int32) (fx2s_r : Nat → Int64) (fx2s_k : Nat → Int32) (fx2s_b : Nat → Int32) (sd : Int32) (sp : Int32) (ou : Nat) (fo : Nat → Int64) (hs0 : ¬ sd < 0) (hs1 : ¬ 9999 < sd) (hs2 : ¬ sp < 1) (hs3 : ¬ 99 < sp) (hz : ∀ j, j < 5 → fx2s_g j = 0) : kMW γ l yL_lives cL_lives 6 (some .int) [(0, 12, 15, 13)] ({ frames := 4, cells := 0, slots := 0, locals := 151 } : Room) [.ref x, .int sd, .int sp, .int 2, .ref ou] [(x, .inr (10, [.ref x0, .ref x1, .ref x2, .ref x3, .ref x4, .ref x5, .ref x6, .ref x7, .ref x8, .ref x9, .ref x10])), (x9, .inr (0, [.ref x90, .ref x91, .ref x92, .ref x93, .ref x94, .ref x95, .ref x96, .ref x97, .int 0, .int 0, .int 10, .int 10, .int 3, .int 0, .int 0, .int 0, .int 0, .int 0, .int 0])), (x4, .inr (2, [.ref x4s, .int 0, .int 0, .int 0, .long 0])), (x4s, .inr (7, [.ref x4s_l, .ref x4s_c, .ref x4s_g, .ref x4s_r, .ref x4s_k, .ref x4s_b, .int 0, .int 0, .int 0])), (x4s_l, .inl (γ.2.1 0, 5, .inl fx4s_l)), (x4s_c, .inl (γ.2.1 0, 5, .inl fx4s_c)), (x4s_g, .inl (γ.2.1 0, 5, .inl fx4s_g)), (x4s_r, .inl (γ.2.1 1, 5, .inr (.inl fx4s_r))), (x4s_k, .inl (γ.2.1 0, 40, .inl fx4s_k)), (x4s_b, .inl (γ.2.1 0, 8, .inl fx4s_b)), (x2, .inr (3, [.ref x2s, .ref x2y, .ref x2q, .int 0, .int 0, .int 0])), (x2s, .inr (7, [.ref x2s_l, .ref x2s_c, .ref x2s_g, .ref x2s_r, .ref x2s_k, .ref x2s_b, .int 0, .int 0, .int 0])), (x2s_l, .inl (γ.2.1 0, 5, .inl fx2s_l)), (x2s_c, .inl (γ.2.1 0, 5, .inl fx2s_c)), (x2s_g, .inl (γ.2.1 0, 5, .inl fx2s_g)), (x2s_r, .inl (γ.2.1 1, 5, .inr (.inl fx2s_r))), (x2s_k, .inl (γ.2.1 0, 40, .inl fx2s_k)), (x2s_b, .inl (γ.2.1 0, 8, .inl fx2s_b)), (ou, .inl (γ.2.1 1, 1, .inr (.inl fo)))] (fun r w1 => ∃ (fo9 : Nat → Int64), r = some (.int 0) ∧ w1 = [(ou, .inl (γ.2.1 1, 1, .inr (.inl fo9)))] ∧ (fo9 0 = (0 : Int32).toInt64)) := by
  refine k_ofWW (by decide) (Nat.le_of_ble_eq_true rfl) ?_
  intro p e s m below meth c A ls hC hr hlocks htab hw hl
  have hx := hC.1
  have hb := hC.2.1
  have hl : lv_has ls 6 [(0, .ref x), (1, .int sd), (2, .int sp), (3, .int 2), (4, .ref ou)] := hl
  refine lv_aload hx hb dL_lives_0 (lv_at hl 4 rfl) ?_
  refine lv_iconst (v := 0) hx hb dL_lives_2 (by decide) ?_
  refine lv_aload_n hx hb dL_lives_3 rfl (lv_at hl 0 rfl) ?_
  refine lv_iload_n hx hb dL_lives_4 rfl (lv_at hl 1 rfl) ?_
  refine lv_iload_n hx hb dL_lives_5 rfl (lv_at hl 2 rfl) ?_
  refine lv_iload_n hx hb dL_lives_6 rfl (lv_at hl 3 rfl) ?_
  refine k_V (wr := [(ou, .inl (γ.2.1 1, 1, .inr (.inl fo)))]) 3 gw_1165 gw_1166 gw_1167 gw_1 gw_1168 hd_X11_lives hC hw (c_X11_lives_2 γ l x x0 x1 x2 x3 x4 x5 x6 x7 x8 x9 x10 x90 x91 x92 x93 x94 x95 x96 x97 x4s x4s_l x4s_c x4s_g x4s_r x4s_k x4s_b fx4s_l fx4s_c fx4s_g fx4s_r fx4s_k fx4s_b x2s x2y x2q x2s_l x2s_c x2s_g x2s_r x2s_k x2s_b fx2s_l fx2s_c fx2s_g fx2s_r fx2s_k fx2s_b sd sp hs0 hs1 hs2 hs3 hz) ⟨by decide, by decide⟩ ⟨by decide, by decide⟩ hl.1 rfl 0 rfl rfl rfl (Nat.le_of_ble_eq_true rfl) [0, 1, 2, 3, 4, 5, 6, 7, 8, 9, 10, 11, 12, 13, 14, 15, 16, 17] [18] rfl rfl rfl rfl (by decide) dL_lives_7 (fun r w1 H locs hq hw => ?_)
  obtain ⟨rfl, rfl⟩ := hq
  have hw : kW γ A [(ou, .inl (γ.2.1 1, 1, .inr (.inl fo)))] s H locs := hw
  refine W.eq (g2 := F0 m 10 ls [.int 0, .int 0, .ref ou]) rfl ?_
  refine lv_i2l hx hb dL_lives_10 rfl ?_
  refine lv_topl (fun x_1720 ex_1720 => ?_)
  refine k_last hC hw 0 rfl (k_in0 (by decide)) dL_lives_11 (fun H locs hw => ?_)
  obtain ⟨f_1721, ef_1721⟩ : ∃ g, g = vp_updL fo (0 : Int32).toNatClampNeg x_1720 := ⟨_, rfl⟩
  have hw : kW γ A [(ou, .inl (γ.2.1 1, 1, .inr (.inl f_1721)))] s H locs := by rw [ef_1721]; exact hw
  have h_1722 : f_1721 0 = x_1720 := by rw [ef_1721]; rfl
  refine lv_goto (tgt := 19) hx hb dL_lives_12 (by decide) ?_
  refine lv_iconst (v := 0) hx hb dL_lives_19 (by decide) ?_
  exact k_iret hC hr hlocks hw [0] rfl rfl ⟨f_1721, rfl, rfl, (by rw [ef_1721, ex_1720]; rfl)⟩ (by decide) (by decide) dL_lives_20

set_option maxHeartbeats 4000000 in
set_option maxRecDepth 100000 in
theorem c_L_lives_a (γ : kΓ) (l : Launch) (hl9 : l.stackTraces = false) (x : Nat) (x0 : Nat) (x1 : Nat) (x2 : Nat) (x3 : Nat) (x4 : Nat) (x5 : Nat) (x6 : Nat) (x7 : Nat) (x8 : Nat) (x9 : Nat) (x10 : Nat) (sd : Int32) (sp : Int32) (wt : Int32) (ou : Nat) (fo : Nat → Int64) (h1 : sd < 0) : kMW γ l yL_lives cL_lives 6 (some .int) [(0, 12, 15, 13)] ({ frames := 7, cells := 1, slots := 6, locals := 123 } : Room) [.ref x, .int sd, .int sp, .int wt, .ref ou] [(x, .inr (10, [.ref x0, .ref x1, .ref x2, .ref x3, .ref x4, .ref x5, .ref x6, .ref x7, .ref x8, .ref x9, .ref x10])), (ou, .inl (γ.2.1 1, 1, .inr (.inl fo)))] (fun r w1 => r = some (.int 1) ∧ w1 = [(ou, .inl (γ.2.1 1, 1, .inr (.inl fo)))]) := by
  refine k_ofWW (by decide) (Nat.le_of_ble_eq_true rfl) ?_
  intro p e s m below meth c A ls hC hr hlocks htab hw hl
  have hx := hC.1
  have hb := hC.2.1
  have hl : lv_has ls 6 [(0, .ref x), (1, .int sd), (2, .int sp), (3, .int wt), (4, .ref ou)] := hl
  refine lv_aload hx hb dL_lives_0 (lv_at hl 4 rfl) ?_
  refine lv_iconst (v := 0) hx hb dL_lives_2 (by decide) ?_
  refine lv_aload_n hx hb dL_lives_3 rfl (lv_at hl 0 rfl) ?_
  refine lv_iload_n hx hb dL_lives_4 rfl (lv_at hl 1 rfl) ?_
  refine lv_iload_n hx hb dL_lives_5 rfl (lv_at hl 2 rfl) ?_
  refine lv_iload_n hx hb dL_lives_6 rfl (lv_at hl 3 rfl) ?_
  refine k_VX (wr := [(ou, .inl (γ.2.1 1, 1, .inr (.inl fo)))]) 3 gw_1165 gw_1166 gw_1167 gw_1 gw_1168 hd_X11_lives hC hw (c_X11_lives_a γ l hl9 x x0 x1 x2 x3 x4 x5 x6 x7 x8 x9 x10 sd sp wt h1) ⟨by decide, by decide⟩ ⟨by decide, by decide⟩ hl.1 rfl 0 rfl rfl rfl (Nat.le_of_ble_eq_true rfl) [0] [1] rfl rfl rfl rfl (by decide) dL_lives_7 _ _ htab (by decide) (by decide) gw_1024 nw_1031 (fun q9 H locs hw => ?_)
  have hw : kW γ A [(ou, .inl (γ.2.1 1, 1, .inr (.inl fo)))] s H locs := hw
  refine W.eq (g2 := F0 m 15 ls [.ref q9]) rfl ?_
  refine W.widen (k := 1) (n := 6) (by decide) (by decide) ?_
  refine lv_astore (lv' := [(5, .ref q9), (0, .ref x), (1, .int sd), (2, .int sp), (3, .int wt), (4, .ref ou)]) hx hb dL_lives_15 hl (by decide) rfl (fun ls hl => ?_)
  refine lv_iconst (v := 1) hx hb dL_lives_17 (by decide) ?_
  exact k_iret hC hr hlocks hw [0] rfl rfl ⟨rfl, rfl⟩ (by decide) (by decide) dL_lives_18

set_option maxHeartbeats 4000000 in
set_option maxRecDepth 100000 in
theorem c_L_lives_b (γ : kΓ) (l : Launch) (hl9 : l.stackTraces = false) (x : Nat) (x0 : Nat) (x1 : Nat) (x2 : Nat) (x3 : Nat) (x4 : Nat) (x5 : Nat) (x6 : Nat) (x7 : Nat) (x8 : Nat) (x9 : Nat) (x10 : Nat) (sd : Int32) (sp : Int32) (wt : Int32) (ou : Nat) (fo : Nat → Int64) (h1 : ¬ sd < 0) (h2 : 9999 < sd) : kMW γ l yL_lives cL_lives 6 (some .int) [(0, 12, 15, 13)] ({ frames := 7, cells := 1, slots := 6, locals := 123 } : Room) [.ref x, .int sd, .int sp, .int wt, .ref ou] [(x, .inr (10, [.ref x0, .ref x1, .ref x2, .ref x3, .ref x4, .ref x5, .ref x6, .ref x7, .ref x8, .ref x9, .ref x10])), (ou, .inl (γ.2.1 1, 1, .inr (.inl fo)))] (fun r w1 => r = some (.int 1) ∧ w1 = [(ou, .inl (γ.2.1 1, 1, .inr (.inl fo)))]) := by
  refine k_ofWW (by decide) (Nat.le_of_ble_eq_true rfl) ?_
  intro p e s m below meth c A ls hC hr hlocks htab hw hl
  have hx := hC.1
  have hb := hC.2.1
  have hl : lv_has ls 6 [(0, .ref x), (1, .int sd), (2, .int sp), (3, .int wt), (4, .ref ou)] := hl
  refine lv_aload hx hb dL_lives_0 (lv_at hl 4 rfl) ?_
  refine lv_iconst (v := 0) hx hb dL_lives_2 (by decide) ?_
  refine lv_aload_n hx hb dL_lives_3 rfl (lv_at hl 0 rfl) ?_
  refine lv_iload_n hx hb dL_lives_4 rfl (lv_at hl 1 rfl) ?_
  refine lv_iload_n hx hb dL_lives_5 rfl (lv_at hl 2 rfl) ?_
  refine lv_iload_n hx hb dL_lives_6 rfl (lv_at hl 3 rfl) ?_
  refine k_VX (wr := [(ou, .inl (γ.2.1 1, 1, .inr (.inl fo)))]) 3 gw_1165 gw_1166 gw_1167 gw_1 gw_1168 hd_X11_lives hC hw (c_X11_lives_b γ l hl9 x x0 x1 x2 x3 x4 x5 x6 x7 x8 x9 x10 sd sp wt h1 h2) ⟨by decide, by decide⟩ ⟨by decide, by decide⟩ hl.1 rfl 0 rfl rfl rfl (Nat.le_of_ble_eq_true rfl) [0] [1] rfl rfl rfl rfl (by decide) dL_lives_7 _ _ htab (by decide) (by decide) gw_1024 nw_1031 (fun q9 H locs hw => ?_)
  have hw : kW γ A [(ou, .inl (γ.2.1 1, 1, .inr (.inl fo)))] s H locs := hw
  refine W.eq (g2 := F0 m 15 ls [.ref q9]) rfl ?_
  refine W.widen (k := 1) (n := 6) (by decide) (by decide) ?_
  refine lv_astore (lv' := [(5, .ref q9), (0, .ref x), (1, .int sd), (2, .int sp), (3, .int wt), (4, .ref ou)]) hx hb dL_lives_15 hl (by decide) rfl (fun ls hl => ?_)
  refine lv_iconst (v := 1) hx hb dL_lives_17 (by decide) ?_
  exact k_iret hC hr hlocks hw [0] rfl rfl ⟨rfl, rfl⟩ (by decide) (by decide) dL_lives_18

set_option maxHeartbeats 4000000 in
set_option maxRecDepth 100000 in
theorem c_L_lives_c (γ : kΓ) (l : Launch) (hl9 : l.stackTraces = false) (x : Nat) (x0 : Nat) (x1 : Nat) (x2 : Nat) (x3 : Nat) (x4 : Nat) (x5 : Nat) (x6 : Nat) (x7 : Nat) (x8 : Nat) (x9 : Nat) (x10 : Nat) (sd : Int32) (sp : Int32) (wt : Int32) (ou : Nat) (fo : Nat → Int64) (hs0 : ¬ sd < 0) (hs1 : ¬ 9999 < sd) (h1 : sp < 1) : kMW γ l yL_lives cL_lives 6 (some .int) [(0, 12, 15, 13)] ({ frames := 7, cells := 1, slots := 6, locals := 123 } : Room) [.ref x, .int sd, .int sp, .int wt, .ref ou] [(x, .inr (10, [.ref x0, .ref x1, .ref x2, .ref x3, .ref x4, .ref x5, .ref x6, .ref x7, .ref x8, .ref x9, .ref x10])), (ou, .inl (γ.2.1 1, 1, .inr (.inl fo)))] (fun r w1 => r = some (.int 1) ∧ w1 = [(ou, .inl (γ.2.1 1, 1, .inr (.inl fo)))]) := by
  refine k_ofWW (by decide) (Nat.le_of_ble_eq_true rfl) ?_
  intro p e s m below meth c A ls hC hr hlocks htab hw hl
  have hx := hC.1
  have hb := hC.2.1
  have hl : lv_has ls 6 [(0, .ref x), (1, .int sd), (2, .int sp), (3, .int wt), (4, .ref ou)] := hl
  refine lv_aload hx hb dL_lives_0 (lv_at hl 4 rfl) ?_
  refine lv_iconst (v := 0) hx hb dL_lives_2 (by decide) ?_
  refine lv_aload_n hx hb dL_lives_3 rfl (lv_at hl 0 rfl) ?_
  refine lv_iload_n hx hb dL_lives_4 rfl (lv_at hl 1 rfl) ?_
  refine lv_iload_n hx hb dL_lives_5 rfl (lv_at hl 2 rfl) ?_
  refine lv_iload_n hx hb dL_lives_6 rfl (lv_at hl 3 rfl) ?_
  refine k_VX (wr := [(ou, .inl (γ.2.1 1, 1, .inr (.inl fo)))]) 3 gw_1165 gw_1166 gw_1167 gw_1 gw_1168 hd_X11_lives hC hw (c_X11_lives_c γ l hl9 x x0 x1 x2 x3 x4 x5 x6 x7 x8 x9 x10 sd sp wt hs0 hs1 h1) ⟨by decide, by decide⟩ ⟨by decide, by decide⟩ hl.1 rfl 0 rfl rfl rfl (Nat.le_of_ble_eq_true rfl) [0] [1] rfl rfl rfl rfl (by decide) dL_lives_7 _ _ htab (by decide) (by decide) gw_1024 nw_1031 (fun q9 H locs hw => ?_)
  have hw : kW γ A [(ou, .inl (γ.2.1 1, 1, .inr (.inl fo)))] s H locs := hw
  refine W.eq (g2 := F0 m 15 ls [.ref q9]) rfl ?_
  refine W.widen (k := 1) (n := 6) (by decide) (by decide) ?_
  refine lv_astore (lv' := [(5, .ref q9), (0, .ref x), (1, .int sd), (2, .int sp), (3, .int wt), (4, .ref ou)]) hx hb dL_lives_15 hl (by decide) rfl (fun ls hl => ?_)
  refine lv_iconst (v := 1) hx hb dL_lives_17 (by decide) ?_
  exact k_iret hC hr hlocks hw [0] rfl rfl ⟨rfl, rfl⟩ (by decide) (by decide) dL_lives_18

set_option maxHeartbeats 4000000 in
set_option maxRecDepth 100000 in
theorem c_L_lives_d (γ : kΓ) (l : Launch) (hl9 : l.stackTraces = false) (x : Nat) (x0 : Nat) (x1 : Nat) (x2 : Nat) (x3 : Nat) (x4 : Nat) (x5 : Nat) (x6 : Nat) (x7 : Nat) (x8 : Nat) (x9 : Nat) (x10 : Nat) (sd : Int32) (sp : Int32) (wt : Int32) (ou : Nat) (fo : Nat → Int64) (hs0 : ¬ sd < 0) (hs1 : ¬ 9999 < sd) (h1 : ¬ sp < 1) (h2 : 99 < sp) : kMW γ l yL_lives cL_lives 6 (some .int) [(0, 12, 15, 13)] ({ frames := 7, cells := 1, slots := 6, locals := 123 } : Room) [.ref x, .int sd, .int sp, .int wt, .ref ou] [(x, .inr (10, [.ref x0, .ref x1, .ref x2, .ref x3, .ref x4, .ref x5, .ref x6, .ref x7, .ref x8, .ref x9, .ref x10])), (ou, .inl (γ.2.1 1, 1, .inr (.inl fo)))] (fun r w1 => r = some (.int 1) ∧ w1 = [(ou, .inl (γ.2.1 1, 1, .inr (.inl fo)))]) := by
  refine k_ofWW (by decide) (Nat.le_of_ble_eq_true rfl) ?_
  intro p e s m below meth c A ls hC hr hlocks htab hw hl
  have hx := hC.1
  have hb := hC.2.1
  have hl : lv_has ls 6 [(0, .ref x), (1, .int sd), (2, .int sp), (3, .int wt), (4, .ref ou)] := hl
  refine lv_aload hx hb dL_lives_0 (lv_at hl 4 rfl) ?_
  refine lv_iconst (v := 0) hx hb dL_lives_2 (by decide) ?_
  refine lv_aload_n hx hb dL_lives_3 rfl (lv_at hl 0 rfl) ?_
  refine lv_iload_n hx hb dL_lives_4 rfl (lv_at hl 1 rfl) ?_
  refine lv_iload_n hx hb dL_lives_5 rfl (lv_at hl 2 rfl) ?_
  refine lv_iload_n hx hb dL_lives_6 rfl (lv_at hl 3 rfl) ?_
  refine k_VX (wr := [(ou, .inl (γ.2.1 1, 1, .inr (.inl fo)))]) 3 gw_1165 gw_1166 gw_1167 gw_1 gw_1168 hd_X11_lives hC hw (c_X11_lives_d γ l hl9 x x0 x1 x2 x3 x4 x5 x6 x7 x8 x9 x10 sd sp wt hs0 hs1 h1 h2) ⟨by decide, by decide⟩ ⟨by decide, by decide⟩ hl.1 rfl 0 rfl rfl rfl (Nat.le_of_ble_eq_true rfl) [0] [1] rfl rfl rfl rfl (by decide) dL_lives_7 _ _ htab (by decide) (by decide) gw_1024 nw_1031 (fun q9 H locs hw => ?_)
  have hw : kW γ A [(ou, .inl (γ.2.1 1, 1, .inr (.inl fo)))] s H locs := hw
  refine W.eq (g2 := F0 m 15 ls [.ref q9]) rfl ?_
  refine W.widen (k := 1) (n := 6) (by decide) (by decide) ?_
  refine lv_astore (lv' := [(5, .ref q9), (0, .ref x), (1, .int sd), (2, .int sp), (3, .int wt), (4, .ref ou)]) hx hb dL_lives_15 hl (by decide) rfl (fun ls hl => ?_)
  refine lv_iconst (v := 1) hx hb dL_lives_17 (by decide) ?_
  exact k_iret hC hr hlocks hw [0] rfl rfl ⟨rfl, rfl⟩ (by decide) (by decide) dL_lives_18

set_option maxHeartbeats 4000000 in
set_option maxRecDepth 100000 in
theorem c_L_lives_e (γ : kΓ) (l : Launch) (hl9 : l.stackTraces = false) (x : Nat) (x0 : Nat) (x1 : Nat) (x2 : Nat) (x3 : Nat) (x4 : Nat) (x5 : Nat) (x6 : Nat) (x7 : Nat) (x8 : Nat) (x9 : Nat) (x10 : Nat) (sd : Int32) (sp : Int32) (wt : Int32) (ou : Nat) (fo : Nat → Int64) (hs0 : ¬ sd < 0) (hs1 : ¬ 9999 < sd) (hs2 : ¬ sp < 1) (hs3 : ¬ 99 < sp) (h1 : wt < 0) : kMW γ l yL_lives cL_lives 6 (some .int) [(0, 12, 15, 13)] ({ frames := 7, cells := 1, slots := 6, locals := 123 } : Room) [.ref x, .int sd, .int sp, .int wt, .ref ou] [(x, .inr (10, [.ref x0, .ref x1, .ref x2, .ref x3, .ref x4, .ref x5, .ref x6, .ref x7, .ref x8, .ref x9, .ref x10])), (ou, .inl (γ.2.1 1, 1, .inr (.inl fo)))] (fun r w1 => r = some (.int 1) ∧ w1 = [(ou, .inl (γ.2.1 1, 1, .inr (.inl fo)))]) := by
  refine k_ofWW (by decide) (Nat.le_of_ble_eq_true rfl) ?_
  intro p e s m below meth c A ls hC hr hlocks htab hw hl
  have hx := hC.1
  have hb := hC.2.1
  have hl : lv_has ls 6 [(0, .ref x), (1, .int sd), (2, .int sp), (3, .int wt), (4, .ref ou)] := hl
  refine lv_aload hx hb dL_lives_0 (lv_at hl 4 rfl) ?_
  refine lv_iconst (v := 0) hx hb dL_lives_2 (by decide) ?_
  refine lv_aload_n hx hb dL_lives_3 rfl (lv_at hl 0 rfl) ?_
  refine lv_iload_n hx hb dL_lives_4 rfl (lv_at hl 1 rfl) ?_
  refine lv_iload_n hx hb dL_lives_5 rfl (lv_at hl 2 rfl) ?_
  refine lv_iload_n hx hb dL_lives_6 rfl (lv_at hl 3 rfl) ?_
  refine k_VX (wr := [(ou, .inl (γ.2.1 1, 1, .inr (.inl fo)))]) 3 gw_1165 gw_1166 gw_1167 gw_1 gw_1168 hd_X11_lives hC hw (c_X11_lives_e γ l hl9 x x0 x1 x2 x3 x4 x5 x6 x7 x8 x9 x10 sd sp wt hs0 hs1 hs2 hs3 h1) ⟨by decide, by decide⟩ ⟨by decide, by decide⟩ hl.1 rfl 0 rfl rfl rfl (Nat.le_of_ble_eq_true rfl) [0] [1] rfl rfl rfl rfl (by decide) dL_lives_7 _ _ htab (by decide) (by decide) gw_1024 nw_1031 (fun q9 H locs hw => ?_)
  have hw : kW γ A [(ou, .inl (γ.2.1 1, 1, .inr (.inl fo)))] s H locs := hw
  refine W.eq (g2 := F0 m 15 ls [.ref q9]) rfl ?_
  refine W.widen (k := 1) (n := 6) (by decide) (by decide) ?_
  refine lv_astore (lv' := [(5, .ref q9), (0, .ref x), (1, .int sd), (2, .int sp), (3, .int wt), (4, .ref ou)]) hx hb dL_lives_15 hl (by decide) rfl (fun ls hl => ?_)
  refine lv_iconst (v := 1) hx hb dL_lives_17 (by decide) ?_
  exact k_iret hC hr hlocks hw [0] rfl rfl ⟨rfl, rfl⟩ (by decide) (by decide) dL_lives_18

set_option maxHeartbeats 4000000 in
set_option maxRecDepth 100000 in
theorem c_L_lives_f (γ : kΓ) (l : Launch) (hl9 : l.stackTraces = false) (x : Nat) (x0 : Nat) (x1 : Nat) (x2 : Nat) (x3 : Nat) (x4 : Nat) (x5 : Nat) (x6 : Nat) (x7 : Nat) (x8 : Nat) (x9 : Nat) (x10 : Nat) (sd : Int32) (sp : Int32) (wt : Int32) (ou : Nat) (fo : Nat → Int64) (hs0 : ¬ sd < 0) (hs1 : ¬ 9999 < sd) (hs2 : ¬ sp < 1) (hs3 : ¬ 99 < sp) (h1 : ¬ wt < 0) (h2 : 2 < wt) : kMW γ l yL_lives cL_lives 6 (some .int) [(0, 12, 15, 13)] ({ frames := 7, cells := 1, slots := 6, locals := 123 } : Room) [.ref x, .int sd, .int sp, .int wt, .ref ou] [(x, .inr (10, [.ref x0, .ref x1, .ref x2, .ref x3, .ref x4, .ref x5, .ref x6, .ref x7, .ref x8, .ref x9, .ref x10])), (ou, .inl (γ.2.1 1, 1, .inr (.inl fo)))] (fun r w1 => r = some (.int 1) ∧ w1 = [(ou, .inl (γ.2.1 1, 1, .inr (.inl fo)))]) := by
  refine k_ofWW (by decide) (Nat.le_of_ble_eq_true rfl) ?_
  intro p e s m below meth c A ls hC hr hlocks htab hw hl
  have hx := hC.1
  have hb := hC.2.1
  have hl : lv_has ls 6 [(0, .ref x), (1, .int sd), (2, .int sp), (3, .int wt), (4, .ref ou)] := hl
  refine lv_aload hx hb dL_lives_0 (lv_at hl 4 rfl) ?_
  refine lv_iconst (v := 0) hx hb dL_lives_2 (by decide) ?_
  refine lv_aload_n hx hb dL_lives_3 rfl (lv_at hl 0 rfl) ?_
  refine lv_iload_n hx hb dL_lives_4 rfl (lv_at hl 1 rfl) ?_
  refine lv_iload_n hx hb dL_lives_5 rfl (lv_at hl 2 rfl) ?_
  refine lv_iload_n hx hb dL_lives_6 rfl (lv_at hl 3 rfl) ?_
  refine k_VX (wr := [(ou, .inl (γ.2.1 1, 1, .inr (.inl fo)))]) 3 gw_1165 gw_1166 gw_1167 gw_1 gw_1168 hd_X11_lives hC hw (c_X11_lives_f γ l hl9 x x0 x1 x2 x3 x4 x5 x6 x7 x8 x9 x10 sd sp wt hs0 hs1 hs2 hs3 h1 h2) ⟨by decide, by decide⟩ ⟨by decide, by decide⟩ hl.1 rfl 0 rfl rfl rfl (Nat.le_of_ble_eq_true rfl) [0] [1] rfl rfl rfl rfl (by decide) dL_lives_7 _ _ htab (by decide) (by decide) gw_1024 nw_1031 (fun q9 H locs hw => ?_)
  have hw : kW γ A [(ou, .inl (γ.2.1 1, 1, .inr (.inl fo)))] s H locs := hw
  refine W.eq (g2 := F0 m 15 ls [.ref q9]) rfl ?_
  refine W.widen (k := 1) (n := 6) (by decide) (by decide) ?_
  refine lv_astore (lv' := [(5, .ref q9), (0, .ref x), (1, .int sd), (2, .int sp), (3, .int wt), (4, .ref ou)]) hx hb dL_lives_15 hl (by decide) rfl (fun ls hl => ?_)
  refine lv_iconst (v := 1) hx hb dL_lives_17 (by decide) ?_
  exact k_iret hC hr hlocks hw [0] rfl rfl ⟨rfl, rfl⟩ (by decide) (by decide) dL_lives_18


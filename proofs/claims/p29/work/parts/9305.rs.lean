theorem dX11_rests_0 : decode cX11_rests 0 = .ok (.iload_n 1, 1) := by decide +kernel
theorem dX11_rests_1 : decode cX11_rests 1 = .ok (.invokestatic 328, 3) := by decide +kernel
theorem dX11_rests_4 : decode cX11_rests 4 = .ok (.ifCond .eq 23, 3) := by decide +kernel
theorem dX11_rests_7 : decode cX11_rests 7 = .ok (.iload_n 2, 1) := by decide +kernel
theorem dX11_rests_8 : decode cX11_rests 8 = .ok (.invokestatic 328, 3) := by decide +kernel
theorem dX11_rests_11 : decode cX11_rests 11 = .ok (.ifCond .eq 16, 3) := by decide +kernel
theorem dX11_rests_14 : decode cX11_rests 14 = .ok (.iload_n 3, 1) := by decide +kernel
theorem dX11_rests_15 : decode cX11_rests 15 = .ok (.invokestatic 328, 3) := by decide +kernel
theorem dX11_rests_18 : decode cX11_rests 18 = .ok (.ifCond .eq 9, 3) := by decide +kernel
theorem dX11_rests_21 : decode cX11_rests 21 = .ok (.iload 4, 2) := by decide +kernel
theorem dX11_rests_23 : decode cX11_rests 23 = .ok (.iconst (-1), 1) := by decide +kernel
theorem dX11_rests_24 : decode cX11_rests 24 = .ok (.if_icmp .ge 11, 3) := by decide +kernel
theorem dX11_rests_27 : decode cX11_rests 27 = .ok (.new 225, 3) := by decide +kernel
theorem dX11_rests_30 : decode cX11_rests 30 = .ok (.dup, 1) := by decide +kernel
theorem dX11_rests_31 : decode cX11_rests 31 = .ok (.invokespecial 227, 3) := by decide +kernel
theorem dX11_rests_34 : decode cX11_rests 34 = .ok (.athrow, 1) := by decide +kernel
theorem dX11_rests_35 : decode cX11_rests 35 = .ok (.iconst 0, 1) := by decide +kernel
theorem dX11_rests_36 : decode cX11_rests 36 = .ok (.istore 5, 2) := by decide +kernel
theorem dX11_rests_38 : decode cX11_rests 38 = .ok (.iconst 0, 1) := by decide +kernel
theorem dX11_rests_39 : decode cX11_rests 39 = .ok (.istore 6, 2) := by decide +kernel
theorem dX11_rests_41 : decode cX11_rests 41 = .ok (.iload 6, 2) := by decide +kernel
theorem dX11_rests_43 : decode cX11_rests 43 = .ok (.iconst 4, 1) := by decide +kernel
theorem dX11_rests_44 : decode cX11_rests 44 = .ok (.if_icmp .ge 60, 3) := by decide +kernel
theorem dX11_rests_47 : decode cX11_rests 47 = .ok (.iload 6, 2) := by decide +kernel
theorem dX11_rests_49 : decode cX11_rests 49 = .ok (.iconst 1, 1) := by decide +kernel
theorem dX11_rests_50 : decode cX11_rests 50 = .ok (.ishr, 1) := by decide +kernel
theorem dX11_rests_51 : decode cX11_rests 51 = .ok (.istore 7, 2) := by decide +kernel
theorem dX11_rests_53 : decode cX11_rests 53 = .ok (.iload 6, 2) := by decide +kernel
theorem dX11_rests_55 : decode cX11_rests 55 = .ok (.iconst 1, 1) := by decide +kernel
theorem dX11_rests_56 : decode cX11_rests 56 = .ok (.iand, 1) := by decide +kernel
theorem dX11_rests_57 : decode cX11_rests 57 = .ok (.istore 8, 2) := by decide +kernel
theorem dX11_rests_59 : decode cX11_rests 59 = .ok (.iload 7, 2) := by decide +kernel
theorem dX11_rests_61 : decode cX11_rests 61 = .ok (.iload 8, 2) := by decide +kernel
theorem dX11_rests_63 : decode cX11_rests 63 = .ok (.iload_n 1, 1) := by decide +kernel
theorem dX11_rests_64 : decode cX11_rests 64 = .ok (.iload_n 2, 1) := by decide +kernel
theorem dX11_rests_65 : decode cX11_rests 65 = .ok (.iload_n 3, 1) := by decide +kernel
theorem dX11_rests_66 : decode cX11_rests 66 = .ok (.invokestatic 331, 3) := by decide +kernel
theorem dX11_rests_69 : decode cX11_rests 69 = .ok (.ifCond .eq 29, 3) := by decide +kernel
theorem dX11_rests_72 : decode cX11_rests 72 = .ok (.iload 8, 2) := by decide +kernel
theorem dX11_rests_74 : decode cX11_rests 74 = .ok (.iload 7, 2) := by decide +kernel
theorem dX11_rests_76 : decode cX11_rests 76 = .ok (.iload_n 1, 1) := by decide +kernel
theorem dX11_rests_77 : decode cX11_rests 77 = .ok (.iload_n 2, 1) := by decide +kernel
theorem dX11_rests_78 : decode cX11_rests 78 = .ok (.iload_n 3, 1) := by decide +kernel
theorem dX11_rests_79 : decode cX11_rests 79 = .ok (.invokestatic 331, 3) := by decide +kernel
theorem dX11_rests_82 : decode cX11_rests 82 = .ok (.ifCond .eq 16, 3) := by decide +kernel
theorem dX11_rests_85 : decode cX11_rests 85 = .ok (.iload 5, 2) := by decide +kernel
theorem dX11_rests_87 : decode cX11_rests 87 = .ok (.iload 4, 2) := by decide +kernel
theorem dX11_rests_89 : decode cX11_rests 89 = .ok (.if_icmp .ne 6, 3) := by decide +kernel
theorem dX11_rests_92 : decode cX11_rests 92 = .ok (.iload 6, 2) := by decide +kernel
theorem dX11_rests_94 : decode cX11_rests 94 = .ok (.ireturn, 1) := by decide +kernel
theorem dX11_rests_95 : decode cX11_rests 95 = .ok (.iinc 5 1, 3) := by decide +kernel
theorem dX11_rests_98 : decode cX11_rests 98 = .ok (.iinc 6 1, 3) := by decide +kernel
theorem dX11_rests_101 : decode cX11_rests 101 = .ok (.goto (-60), 3) := by decide +kernel
theorem dX11_rests_104 : decode cX11_rests 104 = .ok (.iload 4, 2) := by decide +kernel
theorem dX11_rests_106 : decode cX11_rests 106 = .ok (.iconst (-1), 1) := by decide +kernel
theorem dX11_rests_107 : decode cX11_rests 107 = .ok (.if_icmp .eq 11, 3) := by decide +kernel
theorem dX11_rests_110 : decode cX11_rests 110 = .ok (.new 225, 3) := by decide +kernel
theorem dX11_rests_113 : decode cX11_rests 113 = .ok (.dup, 1) := by decide +kernel
theorem dX11_rests_114 : decode cX11_rests 114 = .ok (.invokespecial 227, 3) := by decide +kernel
theorem dX11_rests_117 : decode cX11_rests 117 = .ok (.athrow, 1) := by decide +kernel
theorem dX11_rests_118 : decode cX11_rests 118 = .ok (.iload 5, 2) := by decide +kernel
theorem dX11_rests_120 : decode cX11_rests 120 = .ok (.ireturn, 1) := by decide +kernel
set_option maxHeartbeats 4000000 in
set_option maxRecDepth 100000 in
theorem crr_0 {γ : kΓ} {l : Launch} {p : Program} {e : Env} {s : State} {m : MethodId} {below : List Frame} {meth : Method} {c : Code} {A : Nat → Prop} (x : Nat) (bo : Int32) (lo : Int32) (ge : Int32) (wh : Int32) (v : Int32) (mn : Int32) (hK : kR bo lo ge wh 0 mn = some v) (hC : kC γ p s m [.ref x, .int bo, .int lo, .int ge, .int wh].toArray c cX11_rests 9 RX11 A) (hr : meth.sig.returnType = (some .int)) (hlocks : meth.locks = false) (H : Heap) (locs : List Loc) (hw : kW γ A [] s H locs) (ls : Array Slot) (hl : lv_has ls 9 [(6, .int 4), (5, .int mn), (0, .ref x), (1, .int bo), (2, .int lo), (3, .int ge), (4, .int wh)]) : W p l e ({ frames := 2, cells := 0, slots := 0, locals := 48 } : Room) s m [.ref x, .int bo, .int lo, .int ge, .int wh].toArray below meth c H locs 0 0 (MQ below (kQ γ A (fun r w1 => r = some (.int v) ∧ w1 = [])) [.ref x, .int bo, .int lo, .int ge, .int wh].toArray s 0 0 A) (F0 m 41 ls []) := by
  have hx := hC.1
  have hb := hC.2.1
  obtain ⟨hq, rfl⟩ := kR_0s hK
  refine lv_iload hx hb dX11_rests_41 (lv_at hl 0 rfl) ?_
  refine lv_iconst (v := 4) hx hb dX11_rests_43 (by decide) ?_
  refine lv_icmp_ge (tgt := 104) hx hb dX11_rests_44 (by decide) (fun _ => ?_) (fun h => absurd (by decide) h)
  refine lv_iload hx hb dX11_rests_104 (lv_at hl 6 rfl) ?_
  refine lv_iconst (v := (-1)) hx hb dX11_rests_106 (by decide) ?_
  refine lv_icmp_eq (tgt := 118) hx hb dX11_rests_107 (by decide) (fun _ => ?_) (fun h => absurd hq h)
  refine lv_iload hx hb dX11_rests_118 (lv_at hl 1 rfl) ?_
  exact k_iret hC hr hlocks hw [] rfl rfl ⟨rfl, rfl⟩ (by decide) (by decide) dX11_rests_120

set_option maxHeartbeats 4000000 in
set_option maxRecDepth 100000 in
theorem crr_1 {γ : kΓ} {l : Launch} {p : Program} {e : Env} {s : State} {m : MethodId} {below : List Frame} {meth : Method} {c : Code} {A : Nat → Prop} (x : Nat) (bo : Int32) (lo : Int32) (ge : Int32) (wh : Int32) (v : Int32) (mn : Int32) (hK : kR bo lo ge wh 1 mn = some v) (hC : kC γ p s m [.ref x, .int bo, .int lo, .int ge, .int wh].toArray c cX11_rests 9 RX11 A) (hr : meth.sig.returnType = (some .int)) (hlocks : meth.locks = false) (H : Heap) (locs : List Loc) (hw : kW γ A [] s H locs) (ls : Array Slot) (hl : lv_has ls 9 [(6, .int 3), (5, .int mn), (0, .ref x), (1, .int bo), (2, .int lo), (3, .int ge), (4, .int wh)]) : W p l e ({ frames := 2, cells := 0, slots := 0, locals := 48 } : Room) s m [.ref x, .int bo, .int lo, .int ge, .int wh].toArray below meth c H locs 0 0 (MQ below (kQ γ A (fun r w1 => r = some (.int v) ∧ w1 = [])) [.ref x, .int bo, .int lo, .int ge, .int wh].toArray s 0 0 A) (F0 m 41 ls []) := by
  have hx := hC.1
  have hb := hC.2.1
  refine lv_iload hx hb dX11_rests_41 (lv_at hl 0 rfl) ?_
  refine lv_iconst (v := 4) hx hb dX11_rests_43 (by decide) ?_
  refine lv_icmp_ge (tgt := 104) hx hb dX11_rests_44 (by decide) (fun h => absurd h (by decide)) (fun _ => ?_)
  refine lv_iload hx hb dX11_rests_47 (lv_at hl 0 rfl) ?_
  refine lv_iconst (v := 1) hx hb dX11_rests_49 (by decide) ?_
  refine lv_ishr hx hb dX11_rests_50 ?_
  refine lv_topi (fun x_1754 ex_1754 => ?_)
  obtain rfl : x_1754 = 1 := ex_1754.trans (by decide)
  refine lv_istore (lv' := [(7, .int 1), (6, .int 3), (5, .int mn), (0, .ref x), (1, .int bo), (2, .int lo), (3, .int ge), (4, .int wh)]) hx hb dX11_rests_51 hl (by decide) rfl (fun ls hl => ?_)
  refine lv_iload hx hb dX11_rests_53 (lv_at hl 1 rfl) ?_
  refine lv_iconst (v := 1) hx hb dX11_rests_55 (by decide) ?_
  refine lv_iand hx hb dX11_rests_56 ?_
  refine lv_topi (fun x_1755 ex_1755 => ?_)
  obtain rfl : x_1755 = 1 := ex_1755.trans (by decide)
  refine lv_istore (lv' := [(8, .int 1), (7, .int 1), (6, .int 3), (5, .int mn), (0, .ref x), (1, .int bo), (2, .int lo), (3, .int ge), (4, .int wh)]) hx hb dX11_rests_57 hl (by decide) rfl (fun ls hl => ?_)
  refine lv_iload hx hb dX11_rests_59 (lv_at hl 1 rfl) ?_
  refine lv_iload hx hb dX11_rests_61 (lv_at hl 0 rfl) ?_
  refine lv_iload_n hx hb dX11_rests_63 rfl (lv_at hl 5 rfl) ?_
  refine lv_iload_n hx hb dX11_rests_64 rfl (lv_at hl 6 rfl) ?_
  refine lv_iload_n hx hb dX11_rests_65 rfl (lv_at hl 7 rfl) ?_
  refine k_S (wr := []) 5 gw_1156 gw_1157 gw_1 gw_1158 hd_X11_isContent hC hw (c_X11_isContent γ l 1 1 bo lo ge) ⟨by decide, by decide⟩ ⟨by decide, by decide⟩ hl.1 rfl rfl (Nat.le_of_ble_eq_true rfl) [] [] rfl rfl rfl rfl (by decide) dX11_rests_66 (fun r w1 H locs hq hw => ?_)
  obtain ⟨r9_1756, rfl, rfl, g_1757⟩ := hq
  have hw : kW γ A [] s H locs := hw
  refine W.eq (g2 := F0 m 69 ls [.int r9_1756]) rfl ?_
  rcases g_1757 with ⟨rfl, hk1⟩ | ⟨rfl, hk1⟩
  · refine lv_if_eq (tgt := 98) hx hb dX11_rests_69 (by decide) (fun _ => ?_) (fun h => absurd (by decide) h)
    refine lv_iinc (v := 4) (lv' := [(6, .int 4), (8, .int 1), (7, .int 1), (5, .int mn), (0, .ref x), (1, .int bo), (2, .int lo), (3, .int ge), (4, .int wh)]) hx hb dX11_rests_98 hl (k := 2) rfl (by decide) (by decide) rfl (fun ls hl => ?_)
    refine lv_goto (tgt := 41) hx hb dX11_rests_101 (by decide) ?_
    exact crr_0 x bo lo ge wh v mn (kR_n1 hK hk1) hC hr hlocks _ _ hw _ (lv_sub hl [0, 3, 4, 5, 6, 7, 8] rfl)
  · refine lv_if_eq (tgt := 98) hx hb dX11_rests_69 (by decide) (fun h => absurd h (by decide)) (fun _ => ?_)
    refine lv_iload hx hb dX11_rests_72 (lv_at hl 0 rfl) ?_
    refine lv_iload hx hb dX11_rests_74 (lv_at hl 1 rfl) ?_
    refine lv_iload_n hx hb dX11_rests_76 rfl (lv_at hl 5 rfl) ?_
    refine lv_iload_n hx hb dX11_rests_77 rfl (lv_at hl 6 rfl) ?_
    refine lv_iload_n hx hb dX11_rests_78 rfl (lv_at hl 7 rfl) ?_
    refine k_S (wr := []) 5 gw_1156 gw_1157 gw_1 gw_1158 hd_X11_isContent hC hw (c_X11_isContent γ l 1 1 bo lo ge) ⟨by decide, by decide⟩ ⟨by decide, by decide⟩ hl.1 rfl rfl (Nat.le_of_ble_eq_true rfl) [] [] rfl rfl rfl rfl (by decide) dX11_rests_79 (fun r w1 H locs hq hw => ?_)
    obtain ⟨r9_1758, rfl, rfl, g_1759⟩ := hq
    have hw : kW γ A [] s H locs := hw
    refine W.eq (g2 := F0 m 82 ls [.int r9_1758]) rfl ?_
    rcases g_1759 with ⟨rfl, hk2⟩ | ⟨rfl, hk2⟩
    · refine lv_if_eq (tgt := 98) hx hb dX11_rests_82 (by decide) (fun _ => ?_) (fun h => absurd (by decide) h)
      refine lv_iinc (v := 4) (lv' := [(6, .int 4), (8, .int 1), (7, .int 1), (5, .int mn), (0, .ref x), (1, .int bo), (2, .int lo), (3, .int ge), (4, .int wh)]) hx hb dX11_rests_98 hl (k := 2) rfl (by decide) (by decide) rfl (fun ls hl => ?_)
      refine lv_goto (tgt := 41) hx hb dX11_rests_101 (by decide) ?_
      exact crr_0 x bo lo ge wh v mn (kR_n2 hK hk2) hC hr hlocks _ _ hw _ (lv_sub hl [0, 3, 4, 5, 6, 7, 8] rfl)
    · refine lv_if_eq (tgt := 98) hx hb dX11_rests_82 (by decide) (fun h => absurd h (by decide)) (fun _ => ?_)
      refine lv_iload hx hb dX11_rests_85 (lv_at hl 3 rfl) ?_
      refine lv_iload hx hb dX11_rests_87 (lv_at hl 8 rfl) ?_
      refine lv_icmp_ne (tgt := 95) hx hb dX11_rests_89 (by decide) (fun c89 => ?_) (fun c89 => ?_)
      · refine lv_iinc (v := (mn + 1)) (lv' := [(5, .int (mn + 1)), (8, .int 1), (7, .int 1), (6, .int 3), (0, .ref x), (1, .int bo), (2, .int lo), (3, .int ge), (4, .int wh)]) hx hb dX11_rests_95 hl (k := 3) rfl rfl (by decide) rfl (fun ls hl => ?_)
        refine lv_iinc (v := 4) (lv' := [(6, .int 4), (5, .int (mn + 1)), (8, .int 1), (7, .int 1), (0, .ref x), (1, .int bo), (2, .int lo), (3, .int ge), (4, .int wh)]) hx hb dX11_rests_98 hl (k := 3) rfl (by decide) (by decide) rfl (fun ls hl => ?_)
        refine lv_goto (tgt := 41) hx hb dX11_rests_101 (by decide) ?_
        exact crr_0 x bo lo ge wh v (mn + 1) (kR_c hK hk1 hk2 c89) hC hr hlocks _ _ hw _ (lv_sub hl [0, 1, 4, 5, 6, 7, 8] rfl)
      · refine lv_iload hx hb dX11_rests_92 (lv_at hl 2 rfl) ?_
        obtain rfl : 3 = v := Option.some.inj (kR_e hK hk1 hk2 c89)
        exact k_iret hC hr hlocks hw [] rfl rfl ⟨rfl, rfl⟩ (by decide) (by decide) dX11_rests_94

set_option maxHeartbeats 4000000 in
set_option maxRecDepth 100000 in
theorem crr_2 {γ : kΓ} {l : Launch} {p : Program} {e : Env} {s : State} {m : MethodId} {below : List Frame} {meth : Method} {c : Code} {A : Nat → Prop} (x : Nat) (bo : Int32) (lo : Int32) (ge : Int32) (wh : Int32) (v : Int32) (mn : Int32) (hK : kR bo lo ge wh 2 mn = some v) (hC : kC γ p s m [.ref x, .int bo, .int lo, .int ge, .int wh].toArray c cX11_rests 9 RX11 A) (hr : meth.sig.returnType = (some .int)) (hlocks : meth.locks = false) (H : Heap) (locs : List Loc) (hw : kW γ A [] s H locs) (ls : Array Slot) (hl : lv_has ls 9 [(6, .int 2), (5, .int mn), (0, .ref x), (1, .int bo), (2, .int lo), (3, .int ge), (4, .int wh)]) : W p l e ({ frames := 2, cells := 0, slots := 0, locals := 48 } : Room) s m [.ref x, .int bo, .int lo, .int ge, .int wh].toArray below meth c H locs 0 0 (MQ below (kQ γ A (fun r w1 => r = some (.int v) ∧ w1 = [])) [.ref x, .int bo, .int lo, .int ge, .int wh].toArray s 0 0 A) (F0 m 41 ls []) := by
  have hx := hC.1
  have hb := hC.2.1
  refine lv_iload hx hb dX11_rests_41 (lv_at hl 0 rfl) ?_
  refine lv_iconst (v := 4) hx hb dX11_rests_43 (by decide) ?_
  refine lv_icmp_ge (tgt := 104) hx hb dX11_rests_44 (by decide) (fun h => absurd h (by decide)) (fun _ => ?_)
  refine lv_iload hx hb dX11_rests_47 (lv_at hl 0 rfl) ?_
  refine lv_iconst (v := 1) hx hb dX11_rests_49 (by decide) ?_
  refine lv_ishr hx hb dX11_rests_50 ?_
  refine lv_topi (fun x_1760 ex_1760 => ?_)
  obtain rfl : x_1760 = 1 := ex_1760.trans (by decide)
  refine lv_istore (lv' := [(7, .int 1), (6, .int 2), (5, .int mn), (0, .ref x), (1, .int bo), (2, .int lo), (3, .int ge), (4, .int wh)]) hx hb dX11_rests_51 hl (by decide) rfl (fun ls hl => ?_)
  refine lv_iload hx hb dX11_rests_53 (lv_at hl 1 rfl) ?_
  refine lv_iconst (v := 1) hx hb dX11_rests_55 (by decide) ?_
  refine lv_iand hx hb dX11_rests_56 ?_
  refine lv_topi (fun x_1761 ex_1761 => ?_)
  obtain rfl : x_1761 = 0 := ex_1761.trans (by decide)
  refine lv_istore (lv' := [(8, .int 0), (7, .int 1), (6, .int 2), (5, .int mn), (0, .ref x), (1, .int bo), (2, .int lo), (3, .int ge), (4, .int wh)]) hx hb dX11_rests_57 hl (by decide) rfl (fun ls hl => ?_)
  refine lv_iload hx hb dX11_rests_59 (lv_at hl 1 rfl) ?_
  refine lv_iload hx hb dX11_rests_61 (lv_at hl 0 rfl) ?_
  refine lv_iload_n hx hb dX11_rests_63 rfl (lv_at hl 5 rfl) ?_
  refine lv_iload_n hx hb dX11_rests_64 rfl (lv_at hl 6 rfl) ?_
  refine lv_iload_n hx hb dX11_rests_65 rfl (lv_at hl 7 rfl) ?_
  refine k_S (wr := []) 5 gw_1156 gw_1157 gw_1 gw_1158 hd_X11_isContent hC hw (c_X11_isContent γ l 1 0 bo lo ge) ⟨by decide, by decide⟩ ⟨by decide, by decide⟩ hl.1 rfl rfl (Nat.le_of_ble_eq_true rfl) [] [] rfl rfl rfl rfl (by decide) dX11_rests_66 (fun r w1 H locs hq hw => ?_)
  obtain ⟨r9_1762, rfl, rfl, g_1763⟩ := hq
  have hw : kW γ A [] s H locs := hw
  refine W.eq (g2 := F0 m 69 ls [.int r9_1762]) rfl ?_
  rcases g_1763 with ⟨rfl, hk1⟩ | ⟨rfl, hk1⟩
  · refine lv_if_eq (tgt := 98) hx hb dX11_rests_69 (by decide) (fun _ => ?_) (fun h => absurd (by decide) h)
    refine lv_iinc (v := 3) (lv' := [(6, .int 3), (8, .int 0), (7, .int 1), (5, .int mn), (0, .ref x), (1, .int bo), (2, .int lo), (3, .int ge), (4, .int wh)]) hx hb dX11_rests_98 hl (k := 2) rfl (by decide) (by decide) rfl (fun ls hl => ?_)
    refine lv_goto (tgt := 41) hx hb dX11_rests_101 (by decide) ?_
    exact crr_1 x bo lo ge wh v mn (kR_n1 hK hk1) hC hr hlocks _ _ hw _ (lv_sub hl [0, 3, 4, 5, 6, 7, 8] rfl)
  · refine lv_if_eq (tgt := 98) hx hb dX11_rests_69 (by decide) (fun h => absurd h (by decide)) (fun _ => ?_)
    refine lv_iload hx hb dX11_rests_72 (lv_at hl 0 rfl) ?_
    refine lv_iload hx hb dX11_rests_74 (lv_at hl 1 rfl) ?_
    refine lv_iload_n hx hb dX11_rests_76 rfl (lv_at hl 5 rfl) ?_
    refine lv_iload_n hx hb dX11_rests_77 rfl (lv_at hl 6 rfl) ?_
    refine lv_iload_n hx hb dX11_rests_78 rfl (lv_at hl 7 rfl) ?_
    refine k_S (wr := []) 5 gw_1156 gw_1157 gw_1 gw_1158 hd_X11_isContent hC hw (c_X11_isContent γ l 0 1 bo lo ge) ⟨by decide, by decide⟩ ⟨by decide, by decide⟩ hl.1 rfl rfl (Nat.le_of_ble_eq_true rfl) [] [] rfl rfl rfl rfl (by decide) dX11_rests_79 (fun r w1 H locs hq hw => ?_)
    obtain ⟨r9_1764, rfl, rfl, g_1765⟩ := hq
    have hw : kW γ A [] s H locs := hw
    refine W.eq (g2 := F0 m 82 ls [.int r9_1764]) rfl ?_
    rcases g_1765 with ⟨rfl, hk2⟩ | ⟨rfl, hk2⟩
    · refine lv_if_eq (tgt := 98) hx hb dX11_rests_82 (by decide) (fun _ => ?_) (fun h => absurd (by decide) h)
      refine lv_iinc (v := 3) (lv' := [(6, .int 3), (8, .int 0), (7, .int 1), (5, .int mn), (0, .ref x), (1, .int bo), (2, .int lo), (3, .int ge), (4, .int wh)]) hx hb dX11_rests_98 hl (k := 2) rfl (by decide) (by decide) rfl (fun ls hl => ?_)
      refine lv_goto (tgt := 41) hx hb dX11_rests_101 (by decide) ?_
      exact crr_1 x bo lo ge wh v mn (kR_n2 hK hk2) hC hr hlocks _ _ hw _ (lv_sub hl [0, 3, 4, 5, 6, 7, 8] rfl)
    · refine lv_if_eq (tgt := 98) hx hb dX11_rests_82 (by decide) (fun h => absurd h (by decide)) (fun _ => ?_)
      refine lv_iload hx hb dX11_rests_85 (lv_at hl 3 rfl) ?_
      refine lv_iload hx hb dX11_rests_87 (lv_at hl 8 rfl) ?_
      refine lv_icmp_ne (tgt := 95) hx hb dX11_rests_89 (by decide) (fun c89 => ?_) (fun c89 => ?_)
      · refine lv_iinc (v := (mn + 1)) (lv' := [(5, .int (mn + 1)), (8, .int 0), (7, .int 1), (6, .int 2), (0, .ref x), (1, .int bo), (2, .int lo), (3, .int ge), (4, .int wh)]) hx hb dX11_rests_95 hl (k := 3) rfl rfl (by decide) rfl (fun ls hl => ?_)
        refine lv_iinc (v := 3) (lv' := [(6, .int 3), (5, .int (mn + 1)), (8, .int 0), (7, .int 1), (0, .ref x), (1, .int bo), (2, .int lo), (3, .int ge), (4, .int wh)]) hx hb dX11_rests_98 hl (k := 3) rfl (by decide) (by decide) rfl (fun ls hl => ?_)
        refine lv_goto (tgt := 41) hx hb dX11_rests_101 (by decide) ?_
        exact crr_1 x bo lo ge wh v (mn + 1) (kR_c hK hk1 hk2 c89) hC hr hlocks _ _ hw _ (lv_sub hl [0, 1, 4, 5, 6, 7, 8] rfl)
      · refine lv_iload hx hb dX11_rests_92 (lv_at hl 2 rfl) ?_
        obtain rfl : 2 = v := Option.some.inj (kR_e hK hk1 hk2 c89)
        exact k_iret hC hr hlocks hw [] rfl rfl ⟨rfl, rfl⟩ (by decide) (by decide) dX11_rests_94

set_option maxHeartbeats 4000000 in
set_option maxRecDepth 100000 in
theorem crr_3 {γ : kΓ} {l : Launch} {p : Program} {e : Env} {s : State} {m : MethodId} {below : List Frame} {meth : Method} {c : Code} {A : Nat → Prop} (x : Nat) (bo : Int32) (lo : Int32) (ge : Int32) (wh : Int32) (v : Int32) (mn : Int32) (hK : kR bo lo ge wh 3 mn = some v) (hC : kC γ p s m [.ref x, .int bo, .int lo, .int ge, .int wh].toArray c cX11_rests 9 RX11 A) (hr : meth.sig.returnType = (some .int)) (hlocks : meth.locks = false) (H : Heap) (locs : List Loc) (hw : kW γ A [] s H locs) (ls : Array Slot) (hl : lv_has ls 9 [(6, .int 1), (5, .int mn), (0, .ref x), (1, .int bo), (2, .int lo), (3, .int ge), (4, .int wh)]) : W p l e ({ frames := 2, cells := 0, slots := 0, locals := 48 } : Room) s m [.ref x, .int bo, .int lo, .int ge, .int wh].toArray below meth c H locs 0 0 (MQ below (kQ γ A (fun r w1 => r = some (.int v) ∧ w1 = [])) [.ref x, .int bo, .int lo, .int ge, .int wh].toArray s 0 0 A) (F0 m 41 ls []) := by
  have hx := hC.1
  have hb := hC.2.1
  refine lv_iload hx hb dX11_rests_41 (lv_at hl 0 rfl) ?_
  refine lv_iconst (v := 4) hx hb dX11_rests_43 (by decide) ?_
  refine lv_icmp_ge (tgt := 104) hx hb dX11_rests_44 (by decide) (fun h => absurd h (by decide)) (fun _ => ?_)
  refine lv_iload hx hb dX11_rests_47 (lv_at hl 0 rfl) ?_
  refine lv_iconst (v := 1) hx hb dX11_rests_49 (by decide) ?_
  refine lv_ishr hx hb dX11_rests_50 ?_
  refine lv_topi (fun x_1766 ex_1766 => ?_)
  obtain rfl : x_1766 = 0 := ex_1766.trans (by decide)
  refine lv_istore (lv' := [(7, .int 0), (6, .int 1), (5, .int mn), (0, .ref x), (1, .int bo), (2, .int lo), (3, .int ge), (4, .int wh)]) hx hb dX11_rests_51 hl (by decide) rfl (fun ls hl => ?_)
  refine lv_iload hx hb dX11_rests_53 (lv_at hl 1 rfl) ?_
  refine lv_iconst (v := 1) hx hb dX11_rests_55 (by decide) ?_
  refine lv_iand hx hb dX11_rests_56 ?_
  refine lv_topi (fun x_1767 ex_1767 => ?_)
  obtain rfl : x_1767 = 1 := ex_1767.trans (by decide)
  refine lv_istore (lv' := [(8, .int 1), (7, .int 0), (6, .int 1), (5, .int mn), (0, .ref x), (1, .int bo), (2, .int lo), (3, .int ge), (4, .int wh)]) hx hb dX11_rests_57 hl (by decide) rfl (fun ls hl => ?_)
  refine lv_iload hx hb dX11_rests_59 (lv_at hl 1 rfl) ?_
  refine lv_iload hx hb dX11_rests_61 (lv_at hl 0 rfl) ?_
  refine lv_iload_n hx hb dX11_rests_63 rfl (lv_at hl 5 rfl) ?_
  refine lv_iload_n hx hb dX11_rests_64 rfl (lv_at hl 6 rfl) ?_
  refine lv_iload_n hx hb dX11_rests_65 rfl (lv_at hl 7 rfl) ?_
  refine k_S (wr := []) 5 gw_1156 gw_1157 gw_1 gw_1158 hd_X11_isContent hC hw (c_X11_isContent γ l 0 1 bo lo ge) ⟨by decide, by decide⟩ ⟨by decide, by decide⟩ hl.1 rfl rfl (Nat.le_of_ble_eq_true rfl) [] [] rfl rfl rfl rfl (by decide) dX11_rests_66 (fun r w1 H locs hq hw => ?_)
  obtain ⟨r9_1768, rfl, rfl, g_1769⟩ := hq
  have hw : kW γ A [] s H locs := hw
  refine W.eq (g2 := F0 m 69 ls [.int r9_1768]) rfl ?_
  rcases g_1769 with ⟨rfl, hk1⟩ | ⟨rfl, hk1⟩
  · refine lv_if_eq (tgt := 98) hx hb dX11_rests_69 (by decide) (fun _ => ?_) (fun h => absurd (by decide) h)
    refine lv_iinc (v := 2) (lv' := [(6, .int 2), (8, .int 1), (7, .int 0), (5, .int mn), (0, .ref x), (1, .int bo), (2, .int lo), (3, .int ge), (4, .int wh)]) hx hb dX11_rests_98 hl (k := 2) rfl (by decide) (by decide) rfl (fun ls hl => ?_)
    refine lv_goto (tgt := 41) hx hb dX11_rests_101 (by decide) ?_
    exact crr_2 x bo lo ge wh v mn (kR_n1 hK hk1) hC hr hlocks _ _ hw _ (lv_sub hl [0, 3, 4, 5, 6, 7, 8] rfl)
  · refine lv_if_eq (tgt := 98) hx hb dX11_rests_69 (by decide) (fun h => absurd h (by decide)) (fun _ => ?_)
    refine lv_iload hx hb dX11_rests_72 (lv_at hl 0 rfl) ?_
    refine lv_iload hx hb dX11_rests_74 (lv_at hl 1 rfl) ?_
    refine lv_iload_n hx hb dX11_rests_76 rfl (lv_at hl 5 rfl) ?_
    refine lv_iload_n hx hb dX11_rests_77 rfl (lv_at hl 6 rfl) ?_
    refine lv_iload_n hx hb dX11_rests_78 rfl (lv_at hl 7 rfl) ?_
    refine k_S (wr := []) 5 gw_1156 gw_1157 gw_1 gw_1158 hd_X11_isContent hC hw (c_X11_isContent γ l 1 0 bo lo ge) ⟨by decide, by decide⟩ ⟨by decide, by decide⟩ hl.1 rfl rfl (Nat.le_of_ble_eq_true rfl) [] [] rfl rfl rfl rfl (by decide) dX11_rests_79 (fun r w1 H locs hq hw => ?_)
    obtain ⟨r9_1770, rfl, rfl, g_1771⟩ := hq
    have hw : kW γ A [] s H locs := hw
    refine W.eq (g2 := F0 m 82 ls [.int r9_1770]) rfl ?_
    rcases g_1771 with ⟨rfl, hk2⟩ | ⟨rfl, hk2⟩
    · refine lv_if_eq (tgt := 98) hx hb dX11_rests_82 (by decide) (fun _ => ?_) (fun h => absurd (by decide) h)
      refine lv_iinc (v := 2) (lv' := [(6, .int 2), (8, .int 1), (7, .int 0), (5, .int mn), (0, .ref x), (1, .int bo), (2, .int lo), (3, .int ge), (4, .int wh)]) hx hb dX11_rests_98 hl (k := 2) rfl (by decide) (by decide) rfl (fun ls hl => ?_)
      refine lv_goto (tgt := 41) hx hb dX11_rests_101 (by decide) ?_
      exact crr_2 x bo lo ge wh v mn (kR_n2 hK hk2) hC hr hlocks _ _ hw _ (lv_sub hl [0, 3, 4, 5, 6, 7, 8] rfl)
    · refine lv_if_eq (tgt := 98) hx hb dX11_rests_82 (by decide) (fun h => absurd h (by decide)) (fun _ => ?_)
      refine lv_iload hx hb dX11_rests_85 (lv_at hl 3 rfl) ?_
      refine lv_iload hx hb dX11_rests_87 (lv_at hl 8 rfl) ?_
      refine lv_icmp_ne (tgt := 95) hx hb dX11_rests_89 (by decide) (fun c89 => ?_) (fun c89 => ?_)
      · refine lv_iinc (v := (mn + 1)) (lv' := [(5, .int (mn + 1)), (8, .int 1), (7, .int 0), (6, .int 1), (0, .ref x), (1, .int bo), (2, .int lo), (3, .int ge), (4, .int wh)]) hx hb dX11_rests_95 hl (k := 3) rfl rfl (by decide) rfl (fun ls hl => ?_)
        refine lv_iinc (v := 2) (lv' := [(6, .int 2), (5, .int (mn + 1)), (8, .int 1), (7, .int 0), (0, .ref x), (1, .int bo), (2, .int lo), (3, .int ge), (4, .int wh)]) hx hb dX11_rests_98 hl (k := 3) rfl (by decide) (by decide) rfl (fun ls hl => ?_)
        refine lv_goto (tgt := 41) hx hb dX11_rests_101 (by decide) ?_
        exact crr_2 x bo lo ge wh v (mn + 1) (kR_c hK hk1 hk2 c89) hC hr hlocks _ _ hw _ (lv_sub hl [0, 1, 4, 5, 6, 7, 8] rfl)
      · refine lv_iload hx hb dX11_rests_92 (lv_at hl 2 rfl) ?_
        obtain rfl : 1 = v := Option.some.inj (kR_e hK hk1 hk2 c89)
        exact k_iret hC hr hlocks hw [] rfl rfl ⟨rfl, rfl⟩ (by decide) (by decide) dX11_rests_94

set_option maxHeartbeats 4000000 in
set_option maxRecDepth 100000 in
theorem crr_4 {γ : kΓ} {l : Launch} {p : Program} {e : Env} {s : State} {m : MethodId} {below : List Frame} {meth : Method} {c : Code} {A : Nat → Prop} (x : Nat) (bo : Int32) (lo : Int32) (ge : Int32) (wh : Int32) (v : Int32) (mn : Int32) (hK : kR bo lo ge wh 4 mn = some v) (hC : kC γ p s m [.ref x, .int bo, .int lo, .int ge, .int wh].toArray c cX11_rests 9 RX11 A) (hr : meth.sig.returnType = (some .int)) (hlocks : meth.locks = false) (H : Heap) (locs : List Loc) (hw : kW γ A [] s H locs) (ls : Array Slot) (hl : lv_has ls 9 [(6, .int 0), (5, .int mn), (0, .ref x), (1, .int bo), (2, .int lo), (3, .int ge), (4, .int wh)]) : W p l e ({ frames := 2, cells := 0, slots := 0, locals := 48 } : Room) s m [.ref x, .int bo, .int lo, .int ge, .int wh].toArray below meth c H locs 0 0 (MQ below (kQ γ A (fun r w1 => r = some (.int v) ∧ w1 = [])) [.ref x, .int bo, .int lo, .int ge, .int wh].toArray s 0 0 A) (F0 m 41 ls []) := by
  have hx := hC.1
  have hb := hC.2.1
  refine lv_iload hx hb dX11_rests_41 (lv_at hl 0 rfl) ?_
  refine lv_iconst (v := 4) hx hb dX11_rests_43 (by decide) ?_
  refine lv_icmp_ge (tgt := 104) hx hb dX11_rests_44 (by decide) (fun h => absurd h (by decide)) (fun _ => ?_)
  refine lv_iload hx hb dX11_rests_47 (lv_at hl 0 rfl) ?_
  refine lv_iconst (v := 1) hx hb dX11_rests_49 (by decide) ?_
  refine lv_ishr hx hb dX11_rests_50 ?_
  refine lv_topi (fun x_1772 ex_1772 => ?_)
  obtain rfl : x_1772 = 0 := ex_1772.trans (by decide)
  refine lv_istore (lv' := [(7, .int 0), (6, .int 0), (5, .int mn), (0, .ref x), (1, .int bo), (2, .int lo), (3, .int ge), (4, .int wh)]) hx hb dX11_rests_51 hl (by decide) rfl (fun ls hl => ?_)
  refine lv_iload hx hb dX11_rests_53 (lv_at hl 1 rfl) ?_
  refine lv_iconst (v := 1) hx hb dX11_rests_55 (by decide) ?_
  refine lv_iand hx hb dX11_rests_56 ?_
  refine lv_topi (fun x_1773 ex_1773 => ?_)
  obtain rfl : x_1773 = 0 := ex_1773.trans (by decide)
  refine lv_istore (lv' := [(8, .int 0), (7, .int 0), (6, .int 0), (5, .int mn), (0, .ref x), (1, .int bo), (2, .int lo), (3, .int ge), (4, .int wh)]) hx hb dX11_rests_57 hl (by decide) rfl (fun ls hl => ?_)
  refine lv_iload hx hb dX11_rests_59 (lv_at hl 1 rfl) ?_
  refine lv_iload hx hb dX11_rests_61 (lv_at hl 0 rfl) ?_
  refine lv_iload_n hx hb dX11_rests_63 rfl (lv_at hl 5 rfl) ?_
  refine lv_iload_n hx hb dX11_rests_64 rfl (lv_at hl 6 rfl) ?_
  refine lv_iload_n hx hb dX11_rests_65 rfl (lv_at hl 7 rfl) ?_
  refine k_S (wr := []) 5 gw_1156 gw_1157 gw_1 gw_1158 hd_X11_isContent hC hw (c_X11_isContent γ l 0 0 bo lo ge) ⟨by decide, by decide⟩ ⟨by decide, by decide⟩ hl.1 rfl rfl (Nat.le_of_ble_eq_true rfl) [] [] rfl rfl rfl rfl (by decide) dX11_rests_66 (fun r w1 H locs hq hw => ?_)
  obtain ⟨r9_1774, rfl, rfl, g_1775⟩ := hq
  have hw : kW γ A [] s H locs := hw
  refine W.eq (g2 := F0 m 69 ls [.int r9_1774]) rfl ?_
  rcases g_1775 with ⟨rfl, hk1⟩ | ⟨rfl, hk1⟩
  · refine lv_if_eq (tgt := 98) hx hb dX11_rests_69 (by decide) (fun _ => ?_) (fun h => absurd (by decide) h)
    refine lv_iinc (v := 1) (lv' := [(6, .int 1), (8, .int 0), (7, .int 0), (5, .int mn), (0, .ref x), (1, .int bo), (2, .int lo), (3, .int ge), (4, .int wh)]) hx hb dX11_rests_98 hl (k := 2) rfl (by decide) (by decide) rfl (fun ls hl => ?_)
    refine lv_goto (tgt := 41) hx hb dX11_rests_101 (by decide) ?_
    exact crr_3 x bo lo ge wh v mn (kR_n1 hK hk1) hC hr hlocks _ _ hw _ (lv_sub hl [0, 3, 4, 5, 6, 7, 8] rfl)
  · refine lv_if_eq (tgt := 98) hx hb dX11_rests_69 (by decide) (fun h => absurd h (by decide)) (fun _ => ?_)
    refine lv_iload hx hb dX11_rests_72 (lv_at hl 0 rfl) ?_
    refine lv_iload hx hb dX11_rests_74 (lv_at hl 1 rfl) ?_
    refine lv_iload_n hx hb dX11_rests_76 rfl (lv_at hl 5 rfl) ?_
    refine lv_iload_n hx hb dX11_rests_77 rfl (lv_at hl 6 rfl) ?_
    refine lv_iload_n hx hb dX11_rests_78 rfl (lv_at hl 7 rfl) ?_
    refine k_S (wr := []) 5 gw_1156 gw_1157 gw_1 gw_1158 hd_X11_isContent hC hw (c_X11_isContent γ l 0 0 bo lo ge) ⟨by decide, by decide⟩ ⟨by decide, by decide⟩ hl.1 rfl rfl (Nat.le_of_ble_eq_true rfl) [] [] rfl rfl rfl rfl (by decide) dX11_rests_79 (fun r w1 H locs hq hw => ?_)
    obtain ⟨r9_1776, rfl, rfl, g_1777⟩ := hq
    have hw : kW γ A [] s H locs := hw
    refine W.eq (g2 := F0 m 82 ls [.int r9_1776]) rfl ?_
    rcases g_1777 with ⟨rfl, hk2⟩ | ⟨rfl, hk2⟩
    · refine lv_if_eq (tgt := 98) hx hb dX11_rests_82 (by decide) (fun _ => ?_) (fun h => absurd (by decide) h)
      refine lv_iinc (v := 1) (lv' := [(6, .int 1), (8, .int 0), (7, .int 0), (5, .int mn), (0, .ref x), (1, .int bo), (2, .int lo), (3, .int ge), (4, .int wh)]) hx hb dX11_rests_98 hl (k := 2) rfl (by decide) (by decide) rfl (fun ls hl => ?_)
      refine lv_goto (tgt := 41) hx hb dX11_rests_101 (by decide) ?_
      exact crr_3 x bo lo ge wh v mn (kR_n2 hK hk2) hC hr hlocks _ _ hw _ (lv_sub hl [0, 3, 4, 5, 6, 7, 8] rfl)
    · refine lv_if_eq (tgt := 98) hx hb dX11_rests_82 (by decide) (fun h => absurd h (by decide)) (fun _ => ?_)
      refine lv_iload hx hb dX11_rests_85 (lv_at hl 3 rfl) ?_
      refine lv_iload hx hb dX11_rests_87 (lv_at hl 8 rfl) ?_
      refine lv_icmp_ne (tgt := 95) hx hb dX11_rests_89 (by decide) (fun c89 => ?_) (fun c89 => ?_)
      · refine lv_iinc (v := (mn + 1)) (lv' := [(5, .int (mn + 1)), (8, .int 0), (7, .int 0), (6, .int 0), (0, .ref x), (1, .int bo), (2, .int lo), (3, .int ge), (4, .int wh)]) hx hb dX11_rests_95 hl (k := 3) rfl rfl (by decide) rfl (fun ls hl => ?_)
        refine lv_iinc (v := 1) (lv' := [(6, .int 1), (5, .int (mn + 1)), (8, .int 0), (7, .int 0), (0, .ref x), (1, .int bo), (2, .int lo), (3, .int ge), (4, .int wh)]) hx hb dX11_rests_98 hl (k := 3) rfl (by decide) (by decide) rfl (fun ls hl => ?_)
        refine lv_goto (tgt := 41) hx hb dX11_rests_101 (by decide) ?_
        exact crr_3 x bo lo ge wh v (mn + 1) (kR_c hK hk1 hk2 c89) hC hr hlocks _ _ hw _ (lv_sub hl [0, 1, 4, 5, 6, 7, 8] rfl)
      · refine lv_iload hx hb dX11_rests_92 (lv_at hl 2 rfl) ?_
        obtain rfl : 0 = v := Option.some.inj (kR_e hK hk1 hk2 c89)
        exact k_iret hC hr hlocks hw [] rfl rfl ⟨rfl, rfl⟩ (by decide) (by decide) dX11_rests_94

set_option maxHeartbeats 4000000 in
set_option maxRecDepth 100000 in
theorem c_X11_rests_r (γ : kΓ) (l : Launch) (x : Nat) (x0 : Nat) (x1 : Nat) (x2 : Nat) (x3 : Nat) (x4 : Nat) (x5 : Nat) (x6 : Nat) (x7 : Nat) (x8 : Nat) (x9 : Nat) (x10 : Nat) (bo : Int32) (lo : Int32) (ge : Int32) (wh : Int32) (v : Int32) (hb0 : ¬ bo < 0) (hb1 : ¬ 9 < bo) (hl0 : ¬ lo < 0) (hl1 : ¬ 9 < lo) (hg0 : ¬ ge < 0) (hg1 : ¬ 9 < ge) (hw0 : ¬ wh < -1) (hK : kR bo lo ge wh 4 0 = some v) : kM γ l yX11_rests cX11_rests 9 ((some .int)) ({ frames := 2, cells := 0, slots := 0, locals := 48 } : Room) [.ref x, .int bo, .int lo, .int ge, .int wh] [] (fun r w1 => r = some (.int v) ∧ w1 = []) := by
  refine k_ofW (by decide) (Nat.le_of_ble_eq_true rfl) ?_
  intro p e s m below meth c A ls hC hr hlocks hname hw hl
  have hx := hC.1
  have hb := hC.2.1
  have hl : lv_has ls 9 [(0, .ref x), (1, .int bo), (2, .int lo), (3, .int ge), (4, .int wh)] := hl
  refine lv_iload_n hx hb dX11_rests_0 rfl (lv_at hl 1 rfl) ?_
  refine k_S (wr := []) 1 gw_1153 gw_1154 gw_1 gw_1155 hd_X11_isStake hC hw (c_X11_isStake_t γ l bo hb0 hb1) ⟨by decide, by decide⟩ ⟨by decide, by decide⟩ hl.1 rfl rfl (Nat.le_of_ble_eq_true rfl) [] [] rfl rfl rfl rfl (by decide) dX11_rests_1 (fun r w1 H locs hq hw => ?_)
  obtain ⟨rfl, rfl⟩ := hq
  have hw : kW γ A [] s H locs := hw
  refine W.eq (g2 := F0 m 4 ls [.int 1]) rfl ?_
  refine lv_if_eq (tgt := 27) hx hb dX11_rests_4 (by decide) (fun h => absurd h (by decide)) (fun _ => ?_)
  refine lv_iload_n hx hb dX11_rests_7 rfl (lv_at hl 2 rfl) ?_
  refine k_S (wr := []) 1 gw_1153 gw_1154 gw_1 gw_1155 hd_X11_isStake hC hw (c_X11_isStake_t γ l lo hl0 hl1) ⟨by decide, by decide⟩ ⟨by decide, by decide⟩ hl.1 rfl rfl (Nat.le_of_ble_eq_true rfl) [] [] rfl rfl rfl rfl (by decide) dX11_rests_8 (fun r w1 H locs hq hw => ?_)
  obtain ⟨rfl, rfl⟩ := hq
  have hw : kW γ A [] s H locs := hw
  refine W.eq (g2 := F0 m 11 ls [.int 1]) rfl ?_
  refine lv_if_eq (tgt := 27) hx hb dX11_rests_11 (by decide) (fun h => absurd h (by decide)) (fun _ => ?_)
  refine lv_iload_n hx hb dX11_rests_14 rfl (lv_at hl 3 rfl) ?_
  refine k_S (wr := []) 1 gw_1153 gw_1154 gw_1 gw_1155 hd_X11_isStake hC hw (c_X11_isStake_t γ l ge hg0 hg1) ⟨by decide, by decide⟩ ⟨by decide, by decide⟩ hl.1 rfl rfl (Nat.le_of_ble_eq_true rfl) [] [] rfl rfl rfl rfl (by decide) dX11_rests_15 (fun r w1 H locs hq hw => ?_)
  obtain ⟨rfl, rfl⟩ := hq
  have hw : kW γ A [] s H locs := hw
  refine W.eq (g2 := F0 m 18 ls [.int 1]) rfl ?_
  refine lv_if_eq (tgt := 27) hx hb dX11_rests_18 (by decide) (fun h => absurd h (by decide)) (fun _ => ?_)
  refine lv_iload hx hb dX11_rests_21 (lv_at hl 4 rfl) ?_
  refine lv_iconst (v := (-1)) hx hb dX11_rests_23 (by decide) ?_
  refine lv_icmp_ge (tgt := 35) hx hb dX11_rests_24 (by decide) (fun _ => ?_) (fun h => absurd (Int32.not_lt.mp hw0) h)
  refine lv_iconst (v := 0) hx hb dX11_rests_35 (by decide) ?_
  refine lv_istore (lv' := [(5, .int 0), (0, .ref x), (1, .int bo), (2, .int lo), (3, .int ge), (4, .int wh)]) hx hb dX11_rests_36 hl (by decide) rfl (fun ls hl => ?_)
  refine lv_iconst (v := 0) hx hb dX11_rests_38 (by decide) ?_
  refine lv_istore (lv' := [(6, .int 0), (5, .int 0), (0, .ref x), (1, .int bo), (2, .int lo), (3, .int ge), (4, .int wh)]) hx hb dX11_rests_39 hl (by decide) rfl (fun ls hl => ?_)
  exact crr_4 x bo lo ge wh v 0 hK hC hr hlocks _ _ hw _ (lv_sub hl [0, 1, 2, 3, 4, 5, 6] rfl)

set_option maxHeartbeats 4000000 in
set_option maxRecDepth 100000 in
theorem crx_0 {γ : kΓ} {l : Launch} {p : Program} {e : Env} {s : State} {m : MethodId} {below : List Frame} {meth : Method} {c : Code} {A : Nat → Prop} (x : Nat) (bo : Int32) (lo : Int32) (ge : Int32) (wh : Int32) (mn : Int32) (hK : kR bo lo ge wh 0 mn = none) (hC : kC γ p s m [.ref x, .int bo, .int lo, .int ge, .int wh].toArray c cX11_rests 9 RX11 A) (hl9 : l.stackTraces = false) (hlocks : meth.locks = false) (hT : ∀ x ∈ c.exceptionTable.toList, False) (H : Heap) (locs : List Loc) (hw : kW γ A [] s H locs) (ls : Array Slot) (hl : lv_has ls 9 [(6, .int 4), (5, .int mn), (0, .ref x), (1, .int bo), (2, .int lo), (3, .int ge), (4, .int wh)]) : W p l e ({ frames := 6, cells := 1, slots := 6, locals := 100 } : Room) s m [.ref x, .int bo, .int lo, .int ge, .int wh].toArray below meth c H locs 0 0 (vx_MQ below (fun _ _ _ _ => False) (kX A) [.ref x, .int bo, .int lo, .int ge, .int wh].toArray s 1 6 A) (F0 m 41 ls []) := by
  have hx := hC.1
  have hb := hC.2.1
  have hq := kR_0n hK
  refine lv_iload hx hb dX11_rests_41 (lv_at hl 0 rfl) ?_
  refine lv_iconst (v := 4) hx hb dX11_rests_43 (by decide) ?_
  refine lv_icmp_ge (tgt := 104) hx hb dX11_rests_44 (by decide) (fun _ => ?_) (fun h => absurd (by decide) h)
  refine lv_iload hx hb dX11_rests_104 (lv_at hl 6 rfl) ?_
  refine lv_iconst (v := (-1)) hx hb dX11_rests_106 (by decide) ?_
  refine lv_icmp_eq (tgt := 118) hx hb dX11_rests_107 (by decide) (fun h => absurd h hq) (fun _ => ?_)
  exact k_throw hC hl9 hw hl.1 hT hlocks dX11_rests_110 dX11_rests_113 dX11_rests_114 dX11_rests_117 (by decide) (Nat.le_of_ble_eq_true rfl) (by decide) (by decide) (by decide) (by decide)

set_option maxHeartbeats 4000000 in
set_option maxRecDepth 100000 in
theorem crx_1 {γ : kΓ} {l : Launch} {p : Program} {e : Env} {s : State} {m : MethodId} {below : List Frame} {meth : Method} {c : Code} {A : Nat → Prop} (x : Nat) (bo : Int32) (lo : Int32) (ge : Int32) (wh : Int32) (mn : Int32) (hK : kR bo lo ge wh 1 mn = none) (hC : kC γ p s m [.ref x, .int bo, .int lo, .int ge, .int wh].toArray c cX11_rests 9 RX11 A) (hl9 : l.stackTraces = false) (hlocks : meth.locks = false) (hT : ∀ x ∈ c.exceptionTable.toList, False) (H : Heap) (locs : List Loc) (hw : kW γ A [] s H locs) (ls : Array Slot) (hl : lv_has ls 9 [(6, .int 3), (5, .int mn), (0, .ref x), (1, .int bo), (2, .int lo), (3, .int ge), (4, .int wh)]) : W p l e ({ frames := 6, cells := 1, slots := 6, locals := 100 } : Room) s m [.ref x, .int bo, .int lo, .int ge, .int wh].toArray below meth c H locs 0 0 (vx_MQ below (fun _ _ _ _ => False) (kX A) [.ref x, .int bo, .int lo, .int ge, .int wh].toArray s 1 6 A) (F0 m 41 ls []) := by
  have hx := hC.1
  have hb := hC.2.1
  refine lv_iload hx hb dX11_rests_41 (lv_at hl 0 rfl) ?_
  refine lv_iconst (v := 4) hx hb dX11_rests_43 (by decide) ?_
  refine lv_icmp_ge (tgt := 104) hx hb dX11_rests_44 (by decide) (fun h => absurd h (by decide)) (fun _ => ?_)
  refine lv_iload hx hb dX11_rests_47 (lv_at hl 0 rfl) ?_
  refine lv_iconst (v := 1) hx hb dX11_rests_49 (by decide) ?_
  refine lv_ishr hx hb dX11_rests_50 ?_
  refine lv_topi (fun x_1802 ex_1802 => ?_)
  obtain rfl : x_1802 = 1 := ex_1802.trans (by decide)
  refine lv_istore (lv' := [(7, .int 1), (6, .int 3), (5, .int mn), (0, .ref x), (1, .int bo), (2, .int lo), (3, .int ge), (4, .int wh)]) hx hb dX11_rests_51 hl (by decide) rfl (fun ls hl => ?_)
  refine lv_iload hx hb dX11_rests_53 (lv_at hl 1 rfl) ?_
  refine lv_iconst (v := 1) hx hb dX11_rests_55 (by decide) ?_
  refine lv_iand hx hb dX11_rests_56 ?_
  refine lv_topi (fun x_1803 ex_1803 => ?_)
  obtain rfl : x_1803 = 1 := ex_1803.trans (by decide)
  refine lv_istore (lv' := [(8, .int 1), (7, .int 1), (6, .int 3), (5, .int mn), (0, .ref x), (1, .int bo), (2, .int lo), (3, .int ge), (4, .int wh)]) hx hb dX11_rests_57 hl (by decide) rfl (fun ls hl => ?_)
  refine lv_iload hx hb dX11_rests_59 (lv_at hl 1 rfl) ?_
  refine lv_iload hx hb dX11_rests_61 (lv_at hl 0 rfl) ?_
  refine lv_iload_n hx hb dX11_rests_63 rfl (lv_at hl 5 rfl) ?_
  refine lv_iload_n hx hb dX11_rests_64 rfl (lv_at hl 6 rfl) ?_
  refine lv_iload_n hx hb dX11_rests_65 rfl (lv_at hl 7 rfl) ?_
  refine k_S (wr := []) 5 gw_1156 gw_1157 gw_1 gw_1158 hd_X11_isContent hC hw (c_X11_isContent γ l 1 1 bo lo ge) ⟨by decide, by decide⟩ ⟨by decide, by decide⟩ hl.1 rfl rfl (Nat.le_of_ble_eq_true rfl) [] [] rfl rfl rfl rfl (by decide) dX11_rests_66 (fun r w1 H locs hq hw => ?_)
  obtain ⟨r9_1804, rfl, rfl, g_1805⟩ := hq
  have hw : kW γ A [] s H locs := hw
  refine W.eq (g2 := F0 m 69 ls [.int r9_1804]) rfl ?_
  rcases g_1805 with ⟨rfl, hk1⟩ | ⟨rfl, hk1⟩
  · refine lv_if_eq (tgt := 98) hx hb dX11_rests_69 (by decide) (fun _ => ?_) (fun h => absurd (by decide) h)
    refine lv_iinc (v := 4) (lv' := [(6, .int 4), (8, .int 1), (7, .int 1), (5, .int mn), (0, .ref x), (1, .int bo), (2, .int lo), (3, .int ge), (4, .int wh)]) hx hb dX11_rests_98 hl (k := 2) rfl (by decide) (by decide) rfl (fun ls hl => ?_)
    refine lv_goto (tgt := 41) hx hb dX11_rests_101 (by decide) ?_
    exact crx_0 x bo lo ge wh mn (kR_n1 hK hk1) hC hl9 hlocks hT _ _ hw _ (lv_sub hl [0, 3, 4, 5, 6, 7, 8] rfl)
  · refine lv_if_eq (tgt := 98) hx hb dX11_rests_69 (by decide) (fun h => absurd h (by decide)) (fun _ => ?_)
    refine lv_iload hx hb dX11_rests_72 (lv_at hl 0 rfl) ?_
    refine lv_iload hx hb dX11_rests_74 (lv_at hl 1 rfl) ?_
    refine lv_iload_n hx hb dX11_rests_76 rfl (lv_at hl 5 rfl) ?_
    refine lv_iload_n hx hb dX11_rests_77 rfl (lv_at hl 6 rfl) ?_
    refine lv_iload_n hx hb dX11_rests_78 rfl (lv_at hl 7 rfl) ?_
    refine k_S (wr := []) 5 gw_1156 gw_1157 gw_1 gw_1158 hd_X11_isContent hC hw (c_X11_isContent γ l 1 1 bo lo ge) ⟨by decide, by decide⟩ ⟨by decide, by decide⟩ hl.1 rfl rfl (Nat.le_of_ble_eq_true rfl) [] [] rfl rfl rfl rfl (by decide) dX11_rests_79 (fun r w1 H locs hq hw => ?_)
    obtain ⟨r9_1806, rfl, rfl, g_1807⟩ := hq
    have hw : kW γ A [] s H locs := hw
    refine W.eq (g2 := F0 m 82 ls [.int r9_1806]) rfl ?_
    rcases g_1807 with ⟨rfl, hk2⟩ | ⟨rfl, hk2⟩
    · refine lv_if_eq (tgt := 98) hx hb dX11_rests_82 (by decide) (fun _ => ?_) (fun h => absurd (by decide) h)
      refine lv_iinc (v := 4) (lv' := [(6, .int 4), (8, .int 1), (7, .int 1), (5, .int mn), (0, .ref x), (1, .int bo), (2, .int lo), (3, .int ge), (4, .int wh)]) hx hb dX11_rests_98 hl (k := 2) rfl (by decide) (by decide) rfl (fun ls hl => ?_)
      refine lv_goto (tgt := 41) hx hb dX11_rests_101 (by decide) ?_
      exact crx_0 x bo lo ge wh mn (kR_n2 hK hk2) hC hl9 hlocks hT _ _ hw _ (lv_sub hl [0, 3, 4, 5, 6, 7, 8] rfl)
    · refine lv_if_eq (tgt := 98) hx hb dX11_rests_82 (by decide) (fun h => absurd h (by decide)) (fun _ => ?_)
      refine lv_iload hx hb dX11_rests_85 (lv_at hl 3 rfl) ?_
      refine lv_iload hx hb dX11_rests_87 (lv_at hl 8 rfl) ?_
      refine lv_icmp_ne (tgt := 95) hx hb dX11_rests_89 (by decide) (fun c89 => ?_) (fun c89 => ?_)
      · refine lv_iinc (v := (mn + 1)) (lv' := [(5, .int (mn + 1)), (8, .int 1), (7, .int 1), (6, .int 3), (0, .ref x), (1, .int bo), (2, .int lo), (3, .int ge), (4, .int wh)]) hx hb dX11_rests_95 hl (k := 3) rfl rfl (by decide) rfl (fun ls hl => ?_)
        refine lv_iinc (v := 4) (lv' := [(6, .int 4), (5, .int (mn + 1)), (8, .int 1), (7, .int 1), (0, .ref x), (1, .int bo), (2, .int lo), (3, .int ge), (4, .int wh)]) hx hb dX11_rests_98 hl (k := 3) rfl (by decide) (by decide) rfl (fun ls hl => ?_)
        refine lv_goto (tgt := 41) hx hb dX11_rests_101 (by decide) ?_
        exact crx_0 x bo lo ge wh (mn + 1) (kR_c hK hk1 hk2 c89) hC hl9 hlocks hT _ _ hw _ (lv_sub hl [0, 1, 4, 5, 6, 7, 8] rfl)
      · refine lv_iload hx hb dX11_rests_92 (lv_at hl 2 rfl) ?_
        exact absurd (kR_e hK hk1 hk2 c89) (by simp)

set_option maxHeartbeats 4000000 in
set_option maxRecDepth 100000 in
theorem crx_2 {γ : kΓ} {l : Launch} {p : Program} {e : Env} {s : State} {m : MethodId} {below : List Frame} {meth : Method} {c : Code} {A : Nat → Prop} (x : Nat) (bo : Int32) (lo : Int32) (ge : Int32) (wh : Int32) (mn : Int32) (hK : kR bo lo ge wh 2 mn = none) (hC : kC γ p s m [.ref x, .int bo, .int lo, .int ge, .int wh].toArray c cX11_rests 9 RX11 A) (hl9 : l.stackTraces = false) (hlocks : meth.locks = false) (hT : ∀ x ∈ c.exceptionTable.toList, False) (H : Heap) (locs : List Loc) (hw : kW γ A [] s H locs) (ls : Array Slot) (hl : lv_has ls 9 [(6, .int 2), (5, .int mn), (0, .ref x), (1, .int bo), (2, .int lo), (3, .int ge), (4, .int wh)]) : W p l e ({ frames := 6, cells := 1, slots := 6, locals := 100 } : Room) s m [.ref x, .int bo, .int lo, .int ge, .int wh].toArray below meth c H locs 0 0 (vx_MQ below (fun _ _ _ _ => False) (kX A) [.ref x, .int bo, .int lo, .int ge, .int wh].toArray s 1 6 A) (F0 m 41 ls []) := by
  have hx := hC.1
  have hb := hC.2.1
  refine lv_iload hx hb dX11_rests_41 (lv_at hl 0 rfl) ?_
  refine lv_iconst (v := 4) hx hb dX11_rests_43 (by decide) ?_
  refine lv_icmp_ge (tgt := 104) hx hb dX11_rests_44 (by decide) (fun h => absurd h (by decide)) (fun _ => ?_)
  refine lv_iload hx hb dX11_rests_47 (lv_at hl 0 rfl) ?_
  refine lv_iconst (v := 1) hx hb dX11_rests_49 (by decide) ?_
  refine lv_ishr hx hb dX11_rests_50 ?_
  refine lv_topi (fun x_1808 ex_1808 => ?_)
  obtain rfl : x_1808 = 1 := ex_1808.trans (by decide)
  refine lv_istore (lv' := [(7, .int 1), (6, .int 2), (5, .int mn), (0, .ref x), (1, .int bo), (2, .int lo), (3, .int ge), (4, .int wh)]) hx hb dX11_rests_51 hl (by decide) rfl (fun ls hl => ?_)
  refine lv_iload hx hb dX11_rests_53 (lv_at hl 1 rfl) ?_
  refine lv_iconst (v := 1) hx hb dX11_rests_55 (by decide) ?_
  refine lv_iand hx hb dX11_rests_56 ?_
  refine lv_topi (fun x_1809 ex_1809 => ?_)
  obtain rfl : x_1809 = 0 := ex_1809.trans (by decide)
  refine lv_istore (lv' := [(8, .int 0), (7, .int 1), (6, .int 2), (5, .int mn), (0, .ref x), (1, .int bo), (2, .int lo), (3, .int ge), (4, .int wh)]) hx hb dX11_rests_57 hl (by decide) rfl (fun ls hl => ?_)
  refine lv_iload hx hb dX11_rests_59 (lv_at hl 1 rfl) ?_
  refine lv_iload hx hb dX11_rests_61 (lv_at hl 0 rfl) ?_
  refine lv_iload_n hx hb dX11_rests_63 rfl (lv_at hl 5 rfl) ?_
  refine lv_iload_n hx hb dX11_rests_64 rfl (lv_at hl 6 rfl) ?_
  refine lv_iload_n hx hb dX11_rests_65 rfl (lv_at hl 7 rfl) ?_
  refine k_S (wr := []) 5 gw_1156 gw_1157 gw_1 gw_1158 hd_X11_isContent hC hw (c_X11_isContent γ l 1 0 bo lo ge) ⟨by decide, by decide⟩ ⟨by decide, by decide⟩ hl.1 rfl rfl (Nat.le_of_ble_eq_true rfl) [] [] rfl rfl rfl rfl (by decide) dX11_rests_66 (fun r w1 H locs hq hw => ?_)
  obtain ⟨r9_1810, rfl, rfl, g_1811⟩ := hq
  have hw : kW γ A [] s H locs := hw
  refine W.eq (g2 := F0 m 69 ls [.int r9_1810]) rfl ?_
  rcases g_1811 with ⟨rfl, hk1⟩ | ⟨rfl, hk1⟩
  · refine lv_if_eq (tgt := 98) hx hb dX11_rests_69 (by decide) (fun _ => ?_) (fun h => absurd (by decide) h)
    refine lv_iinc (v := 3) (lv' := [(6, .int 3), (8, .int 0), (7, .int 1), (5, .int mn), (0, .ref x), (1, .int bo), (2, .int lo), (3, .int ge), (4, .int wh)]) hx hb dX11_rests_98 hl (k := 2) rfl (by decide) (by decide) rfl (fun ls hl => ?_)
    refine lv_goto (tgt := 41) hx hb dX11_rests_101 (by decide) ?_
    exact crx_1 x bo lo ge wh mn (kR_n1 hK hk1) hC hl9 hlocks hT _ _ hw _ (lv_sub hl [0, 3, 4, 5, 6, 7, 8] rfl)
  · refine lv_if_eq (tgt := 98) hx hb dX11_rests_69 (by decide) (fun h => absurd h (by decide)) (fun _ => ?_)
    refine lv_iload hx hb dX11_rests_72 (lv_at hl 0 rfl) ?_
    refine lv_iload hx hb dX11_rests_74 (lv_at hl 1 rfl) ?_
    refine lv_iload_n hx hb dX11_rests_76 rfl (lv_at hl 5 rfl) ?_
    refine lv_iload_n hx hb dX11_rests_77 rfl (lv_at hl 6 rfl) ?_
    refine lv_iload_n hx hb dX11_rests_78 rfl (lv_at hl 7 rfl) ?_
    refine k_S (wr := []) 5 gw_1156 gw_1157 gw_1 gw_1158 hd_X11_isContent hC hw (c_X11_isContent γ l 0 1 bo lo ge) ⟨by decide, by decide⟩ ⟨by decide, by decide⟩ hl.1 rfl rfl (Nat.le_of_ble_eq_true rfl) [] [] rfl rfl rfl rfl (by decide) dX11_rests_79 (fun r w1 H locs hq hw => ?_)
    obtain ⟨r9_1812, rfl, rfl, g_1813⟩ := hq
    have hw : kW γ A [] s H locs := hw
    refine W.eq (g2 := F0 m 82 ls [.int r9_1812]) rfl ?_
    rcases g_1813 with ⟨rfl, hk2⟩ | ⟨rfl, hk2⟩
    · refine lv_if_eq (tgt := 98) hx hb dX11_rests_82 (by decide) (fun _ => ?_) (fun h => absurd (by decide) h)
      refine lv_iinc (v := 3) (lv' := [(6, .int 3), (8, .int 0), (7, .int 1), (5, .int mn), (0, .ref x), (1, .int bo), (2, .int lo), (3, .int ge), (4, .int wh)]) hx hb dX11_rests_98 hl (k := 2) rfl (by decide) (by decide) rfl (fun ls hl => ?_)
      refine lv_goto (tgt := 41) hx hb dX11_rests_101 (by decide) ?_
      exact crx_1 x bo lo ge wh mn (kR_n2 hK hk2) hC hl9 hlocks hT _ _ hw _ (lv_sub hl [0, 3, 4, 5, 6, 7, 8] rfl)
    · refine lv_if_eq (tgt := 98) hx hb dX11_rests_82 (by decide) (fun h => absurd h (by decide)) (fun _ => ?_)
      refine lv_iload hx hb dX11_rests_85 (lv_at hl 3 rfl) ?_
      refine lv_iload hx hb dX11_rests_87 (lv_at hl 8 rfl) ?_
      refine lv_icmp_ne (tgt := 95) hx hb dX11_rests_89 (by decide) (fun c89 => ?_) (fun c89 => ?_)
      · refine lv_iinc (v := (mn + 1)) (lv' := [(5, .int (mn + 1)), (8, .int 0), (7, .int 1), (6, .int 2), (0, .ref x), (1, .int bo), (2, .int lo), (3, .int ge), (4, .int wh)]) hx hb dX11_rests_95 hl (k := 3) rfl rfl (by decide) rfl (fun ls hl => ?_)
        refine lv_iinc (v := 3) (lv' := [(6, .int 3), (5, .int (mn + 1)), (8, .int 0), (7, .int 1), (0, .ref x), (1, .int bo), (2, .int lo), (3, .int ge), (4, .int wh)]) hx hb dX11_rests_98 hl (k := 3) rfl (by decide) (by decide) rfl (fun ls hl => ?_)
        refine lv_goto (tgt := 41) hx hb dX11_rests_101 (by decide) ?_
        exact crx_1 x bo lo ge wh (mn + 1) (kR_c hK hk1 hk2 c89) hC hl9 hlocks hT _ _ hw _ (lv_sub hl [0, 1, 4, 5, 6, 7, 8] rfl)
      · refine lv_iload hx hb dX11_rests_92 (lv_at hl 2 rfl) ?_
        exact absurd (kR_e hK hk1 hk2 c89) (by simp)

set_option maxHeartbeats 4000000 in
set_option maxRecDepth 100000 in
theorem crx_3 {γ : kΓ} {l : Launch} {p : Program} {e : Env} {s : State} {m : MethodId} {below : List Frame} {meth : Method} {c : Code} {A : Nat → Prop} (x : Nat) (bo : Int32) (lo : Int32) (ge : Int32) (wh : Int32) (mn : Int32) (hK : kR bo lo ge wh 3 mn = none) (hC : kC γ p s m [.ref x, .int bo, .int lo, .int ge, .int wh].toArray c cX11_rests 9 RX11 A) (hl9 : l.stackTraces = false) (hlocks : meth.locks = false) (hT : ∀ x ∈ c.exceptionTable.toList, False) (H : Heap) (locs : List Loc) (hw : kW γ A [] s H locs) (ls : Array Slot) (hl : lv_has ls 9 [(6, .int 1), (5, .int mn), (0, .ref x), (1, .int bo), (2, .int lo), (3, .int ge), (4, .int wh)]) : W p l e ({ frames := 6, cells := 1, slots := 6, locals := 100 } : Room) s m [.ref x, .int bo, .int lo, .int ge, .int wh].toArray below meth c H locs 0 0 (vx_MQ below (fun _ _ _ _ => False) (kX A) [.ref x, .int bo, .int lo, .int ge, .int wh].toArray s 1 6 A) (F0 m 41 ls []) := by
  have hx := hC.1
  have hb := hC.2.1
  refine lv_iload hx hb dX11_rests_41 (lv_at hl 0 rfl) ?_
  refine lv_iconst (v := 4) hx hb dX11_rests_43 (by decide) ?_
  refine lv_icmp_ge (tgt := 104) hx hb dX11_rests_44 (by decide) (fun h => absurd h (by decide)) (fun _ => ?_)
  refine lv_iload hx hb dX11_rests_47 (lv_at hl 0 rfl) ?_
  refine lv_iconst (v := 1) hx hb dX11_rests_49 (by decide) ?_
  refine lv_ishr hx hb dX11_rests_50 ?_
  refine lv_topi (fun x_1814 ex_1814 => ?_)
  obtain rfl : x_1814 = 0 := ex_1814.trans (by decide)
  refine lv_istore (lv' := [(7, .int 0), (6, .int 1), (5, .int mn), (0, .ref x), (1, .int bo), (2, .int lo), (3, .int ge), (4, .int wh)]) hx hb dX11_rests_51 hl (by decide) rfl (fun ls hl => ?_)
  refine lv_iload hx hb dX11_rests_53 (lv_at hl 1 rfl) ?_
  refine lv_iconst (v := 1) hx hb dX11_rests_55 (by decide) ?_
  refine lv_iand hx hb dX11_rests_56 ?_
  refine lv_topi (fun x_1815 ex_1815 => ?_)
  obtain rfl : x_1815 = 1 := ex_1815.trans (by decide)
  refine lv_istore (lv' := [(8, .int 1), (7, .int 0), (6, .int 1), (5, .int mn), (0, .ref x), (1, .int bo), (2, .int lo), (3, .int ge), (4, .int wh)]) hx hb dX11_rests_57 hl (by decide) rfl (fun ls hl => ?_)
  refine lv_iload hx hb dX11_rests_59 (lv_at hl 1 rfl) ?_
  refine lv_iload hx hb dX11_rests_61 (lv_at hl 0 rfl) ?_
  refine lv_iload_n hx hb dX11_rests_63 rfl (lv_at hl 5 rfl) ?_
  refine lv_iload_n hx hb dX11_rests_64 rfl (lv_at hl 6 rfl) ?_
  refine lv_iload_n hx hb dX11_rests_65 rfl (lv_at hl 7 rfl) ?_
  refine k_S (wr := []) 5 gw_1156 gw_1157 gw_1 gw_1158 hd_X11_isContent hC hw (c_X11_isContent γ l 0 1 bo lo ge) ⟨by decide, by decide⟩ ⟨by decide, by decide⟩ hl.1 rfl rfl (Nat.le_of_ble_eq_true rfl) [] [] rfl rfl rfl rfl (by decide) dX11_rests_66 (fun r w1 H locs hq hw => ?_)
  obtain ⟨r9_1816, rfl, rfl, g_1817⟩ := hq
  have hw : kW γ A [] s H locs := hw
  refine W.eq (g2 := F0 m 69 ls [.int r9_1816]) rfl ?_
  rcases g_1817 with ⟨rfl, hk1⟩ | ⟨rfl, hk1⟩
  · refine lv_if_eq (tgt := 98) hx hb dX11_rests_69 (by decide) (fun _ => ?_) (fun h => absurd (by decide) h)
    refine lv_iinc (v := 2) (lv' := [(6, .int 2), (8, .int 1), (7, .int 0), (5, .int mn), (0, .ref x), (1, .int bo), (2, .int lo), (3, .int ge), (4, .int wh)]) hx hb dX11_rests_98 hl (k := 2) rfl (by decide) (by decide) rfl (fun ls hl => ?_)
    refine lv_goto (tgt := 41) hx hb dX11_rests_101 (by decide) ?_
    exact crx_2 x bo lo ge wh mn (kR_n1 hK hk1) hC hl9 hlocks hT _ _ hw _ (lv_sub hl [0, 3, 4, 5, 6, 7, 8] rfl)
  · refine lv_if_eq (tgt := 98) hx hb dX11_rests_69 (by decide) (fun h => absurd h (by decide)) (fun _ => ?_)
    refine lv_iload hx hb dX11_rests_72 (lv_at hl 0 rfl) ?_
    refine lv_iload hx hb dX11_rests_74 (lv_at hl 1 rfl) ?_
    refine lv_iload_n hx hb dX11_rests_76 rfl (lv_at hl 5 rfl) ?_
    refine lv_iload_n hx hb dX11_rests_77 rfl (lv_at hl 6 rfl) ?_
    refine lv_iload_n hx hb dX11_rests_78 rfl (lv_at hl 7 rfl) ?_
    refine k_S (wr := []) 5 gw_1156 gw_1157 gw_1 gw_1158 hd_X11_isContent hC hw (c_X11_isContent γ l 1 0 bo lo ge) ⟨by decide, by decide⟩ ⟨by decide, by decide⟩ hl.1 rfl rfl (Nat.le_of_ble_eq_true rfl) [] [] rfl rfl rfl rfl (by decide) dX11_rests_79 (fun r w1 H locs hq hw => ?_)
    obtain ⟨r9_1818, rfl, rfl, g_1819⟩ := hq
    have hw : kW γ A [] s H locs := hw
    refine W.eq (g2 := F0 m 82 ls [.int r9_1818]) rfl ?_
    rcases g_1819 with ⟨rfl, hk2⟩ | ⟨rfl, hk2⟩
    · refine lv_if_eq (tgt := 98) hx hb dX11_rests_82 (by decide) (fun _ => ?_) (fun h => absurd (by decide) h)
      refine lv_iinc (v := 2) (lv' := [(6, .int 2), (8, .int 1), (7, .int 0), (5, .int mn), (0, .ref x), (1, .int bo), (2, .int lo), (3, .int ge), (4, .int wh)]) hx hb dX11_rests_98 hl (k := 2) rfl (by decide) (by decide) rfl (fun ls hl => ?_)
      refine lv_goto (tgt := 41) hx hb dX11_rests_101 (by decide) ?_
      exact crx_2 x bo lo ge wh mn (kR_n2 hK hk2) hC hl9 hlocks hT _ _ hw _ (lv_sub hl [0, 3, 4, 5, 6, 7, 8] rfl)
    · refine lv_if_eq (tgt := 98) hx hb dX11_rests_82 (by decide) (fun h => absurd h (by decide)) (fun _ => ?_)
      refine lv_iload hx hb dX11_rests_85 (lv_at hl 3 rfl) ?_
      refine lv_iload hx hb dX11_rests_87 (lv_at hl 8 rfl) ?_
      refine lv_icmp_ne (tgt := 95) hx hb dX11_rests_89 (by decide) (fun c89 => ?_) (fun c89 => ?_)
      · refine lv_iinc (v := (mn + 1)) (lv' := [(5, .int (mn + 1)), (8, .int 1), (7, .int 0), (6, .int 1), (0, .ref x), (1, .int bo), (2, .int lo), (3, .int ge), (4, .int wh)]) hx hb dX11_rests_95 hl (k := 3) rfl rfl (by decide) rfl (fun ls hl => ?_)
        refine lv_iinc (v := 2) (lv' := [(6, .int 2), (5, .int (mn + 1)), (8, .int 1), (7, .int 0), (0, .ref x), (1, .int bo), (2, .int lo), (3, .int ge), (4, .int wh)]) hx hb dX11_rests_98 hl (k := 3) rfl (by decide) (by decide) rfl (fun ls hl => ?_)
        refine lv_goto (tgt := 41) hx hb dX11_rests_101 (by decide) ?_
        exact crx_2 x bo lo ge wh (mn + 1) (kR_c hK hk1 hk2 c89) hC hl9 hlocks hT _ _ hw _ (lv_sub hl [0, 1, 4, 5, 6, 7, 8] rfl)
      · refine lv_iload hx hb dX11_rests_92 (lv_at hl 2 rfl) ?_
        exact absurd (kR_e hK hk1 hk2 c89) (by simp)

set_option maxHeartbeats 4000000 in
set_option maxRecDepth 100000 in
theorem crx_4 {γ : kΓ} {l : Launch} {p : Program} {e : Env} {s : State} {m : MethodId} {below : List Frame} {meth : Method} {c : Code} {A : Nat → Prop} (x : Nat) (bo : Int32) (lo : Int32) (ge : Int32) (wh : Int32) (mn : Int32) (hK : kR bo lo ge wh 4 mn = none) (hC : kC γ p s m [.ref x, .int bo, .int lo, .int ge, .int wh].toArray c cX11_rests 9 RX11 A) (hl9 : l.stackTraces = false) (hlocks : meth.locks = false) (hT : ∀ x ∈ c.exceptionTable.toList, False) (H : Heap) (locs : List Loc) (hw : kW γ A [] s H locs) (ls : Array Slot) (hl : lv_has ls 9 [(6, .int 0), (5, .int mn), (0, .ref x), (1, .int bo), (2, .int lo), (3, .int ge), (4, .int wh)]) : W p l e ({ frames := 6, cells := 1, slots := 6, locals := 100 } : Room) s m [.ref x, .int bo, .int lo, .int ge, .int wh].toArray below meth c H locs 0 0 (vx_MQ below (fun _ _ _ _ => False) (kX A) [.ref x, .int bo, .int lo, .int ge, .int wh].toArray s 1 6 A) (F0 m 41 ls []) := by
  have hx := hC.1
  have hb := hC.2.1
  refine lv_iload hx hb dX11_rests_41 (lv_at hl 0 rfl) ?_
  refine lv_iconst (v := 4) hx hb dX11_rests_43 (by decide) ?_
  refine lv_icmp_ge (tgt := 104) hx hb dX11_rests_44 (by decide) (fun h => absurd h (by decide)) (fun _ => ?_)
  refine lv_iload hx hb dX11_rests_47 (lv_at hl 0 rfl) ?_
  refine lv_iconst (v := 1) hx hb dX11_rests_49 (by decide) ?_
  refine lv_ishr hx hb dX11_rests_50 ?_
  refine lv_topi (fun x_1820 ex_1820 => ?_)
  obtain rfl : x_1820 = 0 := ex_1820.trans (by decide)
  refine lv_istore (lv' := [(7, .int 0), (6, .int 0), (5, .int mn), (0, .ref x), (1, .int bo), (2, .int lo), (3, .int ge), (4, .int wh)]) hx hb dX11_rests_51 hl (by decide) rfl (fun ls hl => ?_)
  refine lv_iload hx hb dX11_rests_53 (lv_at hl 1 rfl) ?_
  refine lv_iconst (v := 1) hx hb dX11_rests_55 (by decide) ?_
  refine lv_iand hx hb dX11_rests_56 ?_
  refine lv_topi (fun x_1821 ex_1821 => ?_)
  obtain rfl : x_1821 = 0 := ex_1821.trans (by decide)
  refine lv_istore (lv' := [(8, .int 0), (7, .int 0), (6, .int 0), (5, .int mn), (0, .ref x), (1, .int bo), (2, .int lo), (3, .int ge), (4, .int wh)]) hx hb dX11_rests_57 hl (by decide) rfl (fun ls hl => ?_)
  refine lv_iload hx hb dX11_rests_59 (lv_at hl 1 rfl) ?_
  refine lv_iload hx hb dX11_rests_61 (lv_at hl 0 rfl) ?_
  refine lv_iload_n hx hb dX11_rests_63 rfl (lv_at hl 5 rfl) ?_
  refine lv_iload_n hx hb dX11_rests_64 rfl (lv_at hl 6 rfl) ?_
  refine lv_iload_n hx hb dX11_rests_65 rfl (lv_at hl 7 rfl) ?_
  refine k_S (wr := []) 5 gw_1156 gw_1157 gw_1 gw_1158 hd_X11_isContent hC hw (c_X11_isContent γ l 0 0 bo lo ge) ⟨by decide, by decide⟩ ⟨by decide, by decide⟩ hl.1 rfl rfl (Nat.le_of_ble_eq_true rfl) [] [] rfl rfl rfl rfl (by decide) dX11_rests_66 (fun r w1 H locs hq hw => ?_)
  obtain ⟨r9_1822, rfl, rfl, g_1823⟩ := hq
  have hw : kW γ A [] s H locs := hw
  refine W.eq (g2 := F0 m 69 ls [.int r9_1822]) rfl ?_
  rcases g_1823 with ⟨rfl, hk1⟩ | ⟨rfl, hk1⟩
  · refine lv_if_eq (tgt := 98) hx hb dX11_rests_69 (by decide) (fun _ => ?_) (fun h => absurd (by decide) h)
    refine lv_iinc (v := 1) (lv' := [(6, .int 1), (8, .int 0), (7, .int 0), (5, .int mn), (0, .ref x), (1, .int bo), (2, .int lo), (3, .int ge), (4, .int wh)]) hx hb dX11_rests_98 hl (k := 2) rfl (by decide) (by decide) rfl (fun ls hl => ?_)
    refine lv_goto (tgt := 41) hx hb dX11_rests_101 (by decide) ?_
    exact crx_3 x bo lo ge wh mn (kR_n1 hK hk1) hC hl9 hlocks hT _ _ hw _ (lv_sub hl [0, 3, 4, 5, 6, 7, 8] rfl)
  · refine lv_if_eq (tgt := 98) hx hb dX11_rests_69 (by decide) (fun h => absurd h (by decide)) (fun _ => ?_)
    refine lv_iload hx hb dX11_rests_72 (lv_at hl 0 rfl) ?_
    refine lv_iload hx hb dX11_rests_74 (lv_at hl 1 rfl) ?_
    refine lv_iload_n hx hb dX11_rests_76 rfl (lv_at hl 5 rfl) ?_
    refine lv_iload_n hx hb dX11_rests_77 rfl (lv_at hl 6 rfl) ?_
    refine lv_iload_n hx hb dX11_rests_78 rfl (lv_at hl 7 rfl) ?_
    refine k_S (wr := []) 5 gw_1156 gw_1157 gw_1 gw_1158 hd_X11_isContent hC hw (c_X11_isContent γ l 0 0 bo lo ge) ⟨by decide, by decide⟩ ⟨by decide, by decide⟩ hl.1 rfl rfl (Nat.le_of_ble_eq_true rfl) [] [] rfl rfl rfl rfl (by decide) dX11_rests_79 (fun r w1 H locs hq hw => ?_)
    obtain ⟨r9_1824, rfl, rfl, g_1825⟩ := hq
    have hw : kW γ A [] s H locs := hw
    refine W.eq (g2 := F0 m 82 ls [.int r9_1824]) rfl ?_
    rcases g_1825 with ⟨rfl, hk2⟩ | ⟨rfl, hk2⟩
    · refine lv_if_eq (tgt := 98) hx hb dX11_rests_82 (by decide) (fun _ => ?_) (fun h => absurd (by decide) h)
      refine lv_iinc (v := 1) (lv' := [(6, .int 1), (8, .int 0), (7, .int 0), (5, .int mn), (0, .ref x), (1, .int bo), (2, .int lo), (3, .int ge), (4, .int wh)]) hx hb dX11_rests_98 hl (k := 2) rfl (by decide) (by decide) rfl (fun ls hl => ?_)
      refine lv_goto (tgt := 41) hx hb dX11_rests_101 (by decide) ?_
      exact crx_3 x bo lo ge wh mn (kR_n2 hK hk2) hC hl9 hlocks hT _ _ hw _ (lv_sub hl [0, 3, 4, 5, 6, 7, 8] rfl)
    · refine lv_if_eq (tgt := 98) hx hb dX11_rests_82 (by decide) (fun h => absurd h (by decide)) (fun _ => ?_)
      refine lv_iload hx hb dX11_rests_85 (lv_at hl 3 rfl) ?_
      refine lv_iload hx hb dX11_rests_87 (lv_at hl 8 rfl) ?_
      refine lv_icmp_ne (tgt := 95) hx hb dX11_rests_89 (by decide) (fun c89 => ?_) (fun c89 => ?_)
      · refine lv_iinc (v := (mn + 1)) (lv' := [(5, .int (mn + 1)), (8, .int 0), (7, .int 0), (6, .int 0), (0, .ref x), (1, .int bo), (2, .int lo), (3, .int ge), (4, .int wh)]) hx hb dX11_rests_95 hl (k := 3) rfl rfl (by decide) rfl (fun ls hl => ?_)
        refine lv_iinc (v := 1) (lv' := [(6, .int 1), (5, .int (mn + 1)), (8, .int 0), (7, .int 0), (0, .ref x), (1, .int bo), (2, .int lo), (3, .int ge), (4, .int wh)]) hx hb dX11_rests_98 hl (k := 3) rfl (by decide) (by decide) rfl (fun ls hl => ?_)
        refine lv_goto (tgt := 41) hx hb dX11_rests_101 (by decide) ?_
        exact crx_3 x bo lo ge wh (mn + 1) (kR_c hK hk1 hk2 c89) hC hl9 hlocks hT _ _ hw _ (lv_sub hl [0, 1, 4, 5, 6, 7, 8] rfl)
      · refine lv_iload hx hb dX11_rests_92 (lv_at hl 2 rfl) ?_
        exact absurd (kR_e hK hk1 hk2 c89) (by simp)

set_option maxHeartbeats 4000000 in
set_option maxRecDepth 100000 in
theorem c_X11_rests_n (γ : kΓ) (l : Launch) (hl9 : l.stackTraces = false) (x : Nat) (x0 : Nat) (x1 : Nat) (x2 : Nat) (x3 : Nat) (x4 : Nat) (x5 : Nat) (x6 : Nat) (x7 : Nat) (x8 : Nat) (x9 : Nat) (x10 : Nat) (bo : Int32) (lo : Int32) (ge : Int32) (wh : Int32) (hb0 : ¬ bo < 0) (hb1 : ¬ 9 < bo) (hl0 : ¬ lo < 0) (hl1 : ¬ 9 < lo) (hg0 : ¬ ge < 0) (hg1 : ¬ 9 < ge) (hw0 : ¬ wh < -1) (hK : kR bo lo ge wh 4 0 = none) : kMX γ l yX11_rests cX11_rests 9 ((some .int)) ({ frames := 6, cells := 1, slots := 6, locals := 100 } : Room) [.ref x, .int bo, .int lo, .int ge, .int wh] [] := by
  refine k_ofWX (by decide) (Nat.le_of_ble_eq_true rfl) ?_
  intro p e s m below meth c A ls hC hlocks hT hw hl
  have hx := hC.1
  have hb := hC.2.1
  have hl : lv_has ls 9 [(0, .ref x), (1, .int bo), (2, .int lo), (3, .int ge), (4, .int wh)] := hl
  refine lv_iload_n hx hb dX11_rests_0 rfl (lv_at hl 1 rfl) ?_
  refine k_S (wr := []) 1 gw_1153 gw_1154 gw_1 gw_1155 hd_X11_isStake hC hw (c_X11_isStake_t γ l bo hb0 hb1) ⟨by decide, by decide⟩ ⟨by decide, by decide⟩ hl.1 rfl rfl (Nat.le_of_ble_eq_true rfl) [] [] rfl rfl rfl rfl (by decide) dX11_rests_1 (fun r w1 H locs hq hw => ?_)
  obtain ⟨rfl, rfl⟩ := hq
  have hw : kW γ A [] s H locs := hw
  refine W.eq (g2 := F0 m 4 ls [.int 1]) rfl ?_
  refine lv_if_eq (tgt := 27) hx hb dX11_rests_4 (by decide) (fun h => absurd h (by decide)) (fun _ => ?_)
  refine lv_iload_n hx hb dX11_rests_7 rfl (lv_at hl 2 rfl) ?_
  refine k_S (wr := []) 1 gw_1153 gw_1154 gw_1 gw_1155 hd_X11_isStake hC hw (c_X11_isStake_t γ l lo hl0 hl1) ⟨by decide, by decide⟩ ⟨by decide, by decide⟩ hl.1 rfl rfl (Nat.le_of_ble_eq_true rfl) [] [] rfl rfl rfl rfl (by decide) dX11_rests_8 (fun r w1 H locs hq hw => ?_)
  obtain ⟨rfl, rfl⟩ := hq
  have hw : kW γ A [] s H locs := hw
  refine W.eq (g2 := F0 m 11 ls [.int 1]) rfl ?_
  refine lv_if_eq (tgt := 27) hx hb dX11_rests_11 (by decide) (fun h => absurd h (by decide)) (fun _ => ?_)
  refine lv_iload_n hx hb dX11_rests_14 rfl (lv_at hl 3 rfl) ?_
  refine k_S (wr := []) 1 gw_1153 gw_1154 gw_1 gw_1155 hd_X11_isStake hC hw (c_X11_isStake_t γ l ge hg0 hg1) ⟨by decide, by decide⟩ ⟨by decide, by decide⟩ hl.1 rfl rfl (Nat.le_of_ble_eq_true rfl) [] [] rfl rfl rfl rfl (by decide) dX11_rests_15 (fun r w1 H locs hq hw => ?_)
  obtain ⟨rfl, rfl⟩ := hq
  have hw : kW γ A [] s H locs := hw
  refine W.eq (g2 := F0 m 18 ls [.int 1]) rfl ?_
  refine lv_if_eq (tgt := 27) hx hb dX11_rests_18 (by decide) (fun h => absurd h (by decide)) (fun _ => ?_)
  refine lv_iload hx hb dX11_rests_21 (lv_at hl 4 rfl) ?_
  refine lv_iconst (v := (-1)) hx hb dX11_rests_23 (by decide) ?_
  refine lv_icmp_ge (tgt := 35) hx hb dX11_rests_24 (by decide) (fun _ => ?_) (fun h => absurd (Int32.not_lt.mp hw0) h)
  refine lv_iconst (v := 0) hx hb dX11_rests_35 (by decide) ?_
  refine lv_istore (lv' := [(5, .int 0), (0, .ref x), (1, .int bo), (2, .int lo), (3, .int ge), (4, .int wh)]) hx hb dX11_rests_36 hl (by decide) rfl (fun ls hl => ?_)
  refine lv_iconst (v := 0) hx hb dX11_rests_38 (by decide) ?_
  refine lv_istore (lv' := [(6, .int 0), (5, .int 0), (0, .ref x), (1, .int bo), (2, .int lo), (3, .int ge), (4, .int wh)]) hx hb dX11_rests_39 hl (by decide) rfl (fun ls hl => ?_)
  exact crx_4 x bo lo ge wh 0 hK hC hl9 hlocks hT _ _ hw _ (lv_sub hl [0, 1, 2, 3, 4, 5, 6] rfl)

set_option maxHeartbeats 4000000 in
set_option maxRecDepth 100000 in
theorem c_X11_rests_bo_l (γ : kΓ) (l : Launch) (hl9 : l.stackTraces = false) (x : Nat) (x0 : Nat) (x1 : Nat) (x2 : Nat) (x3 : Nat) (x4 : Nat) (x5 : Nat) (x6 : Nat) (x7 : Nat) (x8 : Nat) (x9 : Nat) (x10 : Nat) (bo : Int32) (lo : Int32) (ge : Int32) (wh : Int32) (h1 : bo < 0) : kMX γ l yX11_rests cX11_rests 9 ((some .int)) ({ frames := 6, cells := 1, slots := 6, locals := 100 } : Room) [.ref x, .int bo, .int lo, .int ge, .int wh] [] := by
  refine k_ofWX (by decide) (Nat.le_of_ble_eq_true rfl) ?_
  intro p e s m below meth c A ls hC hlocks hT hw hl
  have hx := hC.1
  have hb := hC.2.1
  have hl : lv_has ls 9 [(0, .ref x), (1, .int bo), (2, .int lo), (3, .int ge), (4, .int wh)] := hl
  refine lv_iload_n hx hb dX11_rests_0 rfl (lv_at hl 1 rfl) ?_
  refine k_S (wr := []) 1 gw_1153 gw_1154 gw_1 gw_1155 hd_X11_isStake hC hw (c_X11_isStake_l γ l bo h1) ⟨by decide, by decide⟩ ⟨by decide, by decide⟩ hl.1 rfl rfl (Nat.le_of_ble_eq_true rfl) [] [] rfl rfl rfl rfl (by decide) dX11_rests_1 (fun r w1 H locs hq hw => ?_)
  obtain ⟨rfl, rfl⟩ := hq
  have hw : kW γ A [] s H locs := hw
  refine W.eq (g2 := F0 m 4 ls [.int 0]) rfl ?_
  refine lv_if_eq (tgt := 27) hx hb dX11_rests_4 (by decide) (fun _ => ?_) (fun h => absurd (by decide) h)
  exact k_throw hC hl9 hw hl.1 hT hlocks dX11_rests_27 dX11_rests_30 dX11_rests_31 dX11_rests_34 (by decide) (Nat.le_of_ble_eq_true rfl) (by decide) (by decide) (by decide) (by decide)

set_option maxHeartbeats 4000000 in
set_option maxRecDepth 100000 in
theorem c_X11_rests_bo_h (γ : kΓ) (l : Launch) (hl9 : l.stackTraces = false) (x : Nat) (x0 : Nat) (x1 : Nat) (x2 : Nat) (x3 : Nat) (x4 : Nat) (x5 : Nat) (x6 : Nat) (x7 : Nat) (x8 : Nat) (x9 : Nat) (x10 : Nat) (bo : Int32) (lo : Int32) (ge : Int32) (wh : Int32) (h1 : ¬ bo < 0) (h2 : 9 < bo) : kMX γ l yX11_rests cX11_rests 9 ((some .int)) ({ frames := 6, cells := 1, slots := 6, locals := 100 } : Room) [.ref x, .int bo, .int lo, .int ge, .int wh] [] := by
  refine k_ofWX (by decide) (Nat.le_of_ble_eq_true rfl) ?_
  intro p e s m below meth c A ls hC hlocks hT hw hl
  have hx := hC.1
  have hb := hC.2.1
  have hl : lv_has ls 9 [(0, .ref x), (1, .int bo), (2, .int lo), (3, .int ge), (4, .int wh)] := hl
  refine lv_iload_n hx hb dX11_rests_0 rfl (lv_at hl 1 rfl) ?_
  refine k_S (wr := []) 1 gw_1153 gw_1154 gw_1 gw_1155 hd_X11_isStake hC hw (c_X11_isStake_h γ l bo h1 h2) ⟨by decide, by decide⟩ ⟨by decide, by decide⟩ hl.1 rfl rfl (Nat.le_of_ble_eq_true rfl) [] [] rfl rfl rfl rfl (by decide) dX11_rests_1 (fun r w1 H locs hq hw => ?_)
  obtain ⟨rfl, rfl⟩ := hq
  have hw : kW γ A [] s H locs := hw
  refine W.eq (g2 := F0 m 4 ls [.int 0]) rfl ?_
  refine lv_if_eq (tgt := 27) hx hb dX11_rests_4 (by decide) (fun _ => ?_) (fun h => absurd (by decide) h)
  exact k_throw hC hl9 hw hl.1 hT hlocks dX11_rests_27 dX11_rests_30 dX11_rests_31 dX11_rests_34 (by decide) (Nat.le_of_ble_eq_true rfl) (by decide) (by decide) (by decide) (by decide)

set_option maxHeartbeats 4000000 in
set_option maxRecDepth 100000 in
theorem c_X11_rests_lo_l (γ : kΓ) (l : Launch) (hl9 : l.stackTraces = false) (x : Nat) (x0 : Nat) (x1 : Nat) (x2 : Nat) (x3 : Nat) (x4 : Nat) (x5 : Nat) (x6 : Nat) (x7 : Nat) (x8 : Nat) (x9 : Nat) (x10 : Nat) (bo : Int32) (lo : Int32) (ge : Int32) (wh : Int32) (hb0 : ¬ bo < 0) (hb1 : ¬ 9 < bo) (h1 : lo < 0) : kMX γ l yX11_rests cX11_rests 9 ((some .int)) ({ frames := 6, cells := 1, slots := 6, locals := 100 } : Room) [.ref x, .int bo, .int lo, .int ge, .int wh] [] := by
  refine k_ofWX (by decide) (Nat.le_of_ble_eq_true rfl) ?_
  intro p e s m below meth c A ls hC hlocks hT hw hl
  have hx := hC.1
  have hb := hC.2.1
  have hl : lv_has ls 9 [(0, .ref x), (1, .int bo), (2, .int lo), (3, .int ge), (4, .int wh)] := hl
  refine lv_iload_n hx hb dX11_rests_0 rfl (lv_at hl 1 rfl) ?_
  refine k_S (wr := []) 1 gw_1153 gw_1154 gw_1 gw_1155 hd_X11_isStake hC hw (c_X11_isStake_t γ l bo hb0 hb1) ⟨by decide, by decide⟩ ⟨by decide, by decide⟩ hl.1 rfl rfl (Nat.le_of_ble_eq_true rfl) [] [] rfl rfl rfl rfl (by decide) dX11_rests_1 (fun r w1 H locs hq hw => ?_)
  obtain ⟨rfl, rfl⟩ := hq
  have hw : kW γ A [] s H locs := hw
  refine W.eq (g2 := F0 m 4 ls [.int 1]) rfl ?_
  refine lv_if_eq (tgt := 27) hx hb dX11_rests_4 (by decide) (fun h => absurd h (by decide)) (fun _ => ?_)
  refine lv_iload_n hx hb dX11_rests_7 rfl (lv_at hl 2 rfl) ?_
  refine k_S (wr := []) 1 gw_1153 gw_1154 gw_1 gw_1155 hd_X11_isStake hC hw (c_X11_isStake_l γ l lo h1) ⟨by decide, by decide⟩ ⟨by decide, by decide⟩ hl.1 rfl rfl (Nat.le_of_ble_eq_true rfl) [] [] rfl rfl rfl rfl (by decide) dX11_rests_8 (fun r w1 H locs hq hw => ?_)
  obtain ⟨rfl, rfl⟩ := hq
  have hw : kW γ A [] s H locs := hw
  refine W.eq (g2 := F0 m 11 ls [.int 0]) rfl ?_
  refine lv_if_eq (tgt := 27) hx hb dX11_rests_11 (by decide) (fun _ => ?_) (fun h => absurd (by decide) h)
  exact k_throw hC hl9 hw hl.1 hT hlocks dX11_rests_27 dX11_rests_30 dX11_rests_31 dX11_rests_34 (by decide) (Nat.le_of_ble_eq_true rfl) (by decide) (by decide) (by decide) (by decide)

set_option maxHeartbeats 4000000 in
set_option maxRecDepth 100000 in
theorem c_X11_rests_lo_h (γ : kΓ) (l : Launch) (hl9 : l.stackTraces = false) (x : Nat) (x0 : Nat) (x1 : Nat) (x2 : Nat) (x3 : Nat) (x4 : Nat) (x5 : Nat) (x6 : Nat) (x7 : Nat) (x8 : Nat) (x9 : Nat) (x10 : Nat) (bo : Int32) (lo : Int32) (ge : Int32) (wh : Int32) (hb0 : ¬ bo < 0) (hb1 : ¬ 9 < bo) (h1 : ¬ lo < 0) (h2 : 9 < lo) : kMX γ l yX11_rests cX11_rests 9 ((some .int)) ({ frames := 6, cells := 1, slots := 6, locals := 100 } : Room) [.ref x, .int bo, .int lo, .int ge, .int wh] [] := by
  refine k_ofWX (by decide) (Nat.le_of_ble_eq_true rfl) ?_
  intro p e s m below meth c A ls hC hlocks hT hw hl
  have hx := hC.1
  have hb := hC.2.1
  have hl : lv_has ls 9 [(0, .ref x), (1, .int bo), (2, .int lo), (3, .int ge), (4, .int wh)] := hl
  refine lv_iload_n hx hb dX11_rests_0 rfl (lv_at hl 1 rfl) ?_
  refine k_S (wr := []) 1 gw_1153 gw_1154 gw_1 gw_1155 hd_X11_isStake hC hw (c_X11_isStake_t γ l bo hb0 hb1) ⟨by decide, by decide⟩ ⟨by decide, by decide⟩ hl.1 rfl rfl (Nat.le_of_ble_eq_true rfl) [] [] rfl rfl rfl rfl (by decide) dX11_rests_1 (fun r w1 H locs hq hw => ?_)
  obtain ⟨rfl, rfl⟩ := hq
  have hw : kW γ A [] s H locs := hw
  refine W.eq (g2 := F0 m 4 ls [.int 1]) rfl ?_
  refine lv_if_eq (tgt := 27) hx hb dX11_rests_4 (by decide) (fun h => absurd h (by decide)) (fun _ => ?_)
  refine lv_iload_n hx hb dX11_rests_7 rfl (lv_at hl 2 rfl) ?_
  refine k_S (wr := []) 1 gw_1153 gw_1154 gw_1 gw_1155 hd_X11_isStake hC hw (c_X11_isStake_h γ l lo h1 h2) ⟨by decide, by decide⟩ ⟨by decide, by decide⟩ hl.1 rfl rfl (Nat.le_of_ble_eq_true rfl) [] [] rfl rfl rfl rfl (by decide) dX11_rests_8 (fun r w1 H locs hq hw => ?_)
  obtain ⟨rfl, rfl⟩ := hq
  have hw : kW γ A [] s H locs := hw
  refine W.eq (g2 := F0 m 11 ls [.int 0]) rfl ?_
  refine lv_if_eq (tgt := 27) hx hb dX11_rests_11 (by decide) (fun _ => ?_) (fun h => absurd (by decide) h)
  exact k_throw hC hl9 hw hl.1 hT hlocks dX11_rests_27 dX11_rests_30 dX11_rests_31 dX11_rests_34 (by decide) (Nat.le_of_ble_eq_true rfl) (by decide) (by decide) (by decide) (by decide)

set_option maxHeartbeats 4000000 in
set_option maxRecDepth 100000 in
theorem c_X11_rests_ge_l (γ : kΓ) (l : Launch) (hl9 : l.stackTraces = false) (x : Nat) (x0 : Nat) (x1 : Nat) (x2 : Nat) (x3 : Nat) (x4 : Nat) (x5 : Nat) (x6 : Nat) (x7 : Nat) (x8 : Nat) (x9 : Nat) (x10 : Nat) (bo : Int32) (lo : Int32) (ge : Int32) (wh : Int32) (hb0 : ¬ bo < 0) (hb1 : ¬ 9 < bo) (hl0 : ¬ lo < 0) (hl1 : ¬ 9 < lo) (h1 : ge < 0) : kMX γ l yX11_rests cX11_rests 9 ((some .int)) ({ frames := 6, cells := 1, slots := 6, locals := 100 } : Room) [.ref x, .int bo, .int lo, .int ge, .int wh] [] := by
  refine k_ofWX (by decide) (Nat.le_of_ble_eq_true rfl) ?_
  intro p e s m below meth c A ls hC hlocks hT hw hl
  have hx := hC.1
  have hb := hC.2.1
  have hl : lv_has ls 9 [(0, .ref x), (1, .int bo), (2, .int lo), (3, .int ge), (4, .int wh)] := hl
  refine lv_iload_n hx hb dX11_rests_0 rfl (lv_at hl 1 rfl) ?_
  refine k_S (wr := []) 1 gw_1153 gw_1154 gw_1 gw_1155 hd_X11_isStake hC hw (c_X11_isStake_t γ l bo hb0 hb1) ⟨by decide, by decide⟩ ⟨by decide, by decide⟩ hl.1 rfl rfl (Nat.le_of_ble_eq_true rfl) [] [] rfl rfl rfl rfl (by decide) dX11_rests_1 (fun r w1 H locs hq hw => ?_)
  obtain ⟨rfl, rfl⟩ := hq
  have hw : kW γ A [] s H locs := hw
  refine W.eq (g2 := F0 m 4 ls [.int 1]) rfl ?_
  refine lv_if_eq (tgt := 27) hx hb dX11_rests_4 (by decide) (fun h => absurd h (by decide)) (fun _ => ?_)
  refine lv_iload_n hx hb dX11_rests_7 rfl (lv_at hl 2 rfl) ?_
  refine k_S (wr := []) 1 gw_1153 gw_1154 gw_1 gw_1155 hd_X11_isStake hC hw (c_X11_isStake_t γ l lo hl0 hl1) ⟨by decide, by decide⟩ ⟨by decide, by decide⟩ hl.1 rfl rfl (Nat.le_of_ble_eq_true rfl) [] [] rfl rfl rfl rfl (by decide) dX11_rests_8 (fun r w1 H locs hq hw => ?_)
  obtain ⟨rfl, rfl⟩ := hq
  have hw : kW γ A [] s H locs := hw
  refine W.eq (g2 := F0 m 11 ls [.int 1]) rfl ?_
  refine lv_if_eq (tgt := 27) hx hb dX11_rests_11 (by decide) (fun h => absurd h (by decide)) (fun _ => ?_)
  refine lv_iload_n hx hb dX11_rests_14 rfl (lv_at hl 3 rfl) ?_
  refine k_S (wr := []) 1 gw_1153 gw_1154 gw_1 gw_1155 hd_X11_isStake hC hw (c_X11_isStake_l γ l ge h1) ⟨by decide, by decide⟩ ⟨by decide, by decide⟩ hl.1 rfl rfl (Nat.le_of_ble_eq_true rfl) [] [] rfl rfl rfl rfl (by decide) dX11_rests_15 (fun r w1 H locs hq hw => ?_)
  obtain ⟨rfl, rfl⟩ := hq
  have hw : kW γ A [] s H locs := hw
  refine W.eq (g2 := F0 m 18 ls [.int 0]) rfl ?_
  refine lv_if_eq (tgt := 27) hx hb dX11_rests_18 (by decide) (fun _ => ?_) (fun h => absurd (by decide) h)
  exact k_throw hC hl9 hw hl.1 hT hlocks dX11_rests_27 dX11_rests_30 dX11_rests_31 dX11_rests_34 (by decide) (Nat.le_of_ble_eq_true rfl) (by decide) (by decide) (by decide) (by decide)

set_option maxHeartbeats 4000000 in
set_option maxRecDepth 100000 in
theorem c_X11_rests_ge_h (γ : kΓ) (l : Launch) (hl9 : l.stackTraces = false) (x : Nat) (x0 : Nat) (x1 : Nat) (x2 : Nat) (x3 : Nat) (x4 : Nat) (x5 : Nat) (x6 : Nat) (x7 : Nat) (x8 : Nat) (x9 : Nat) (x10 : Nat) (bo : Int32) (lo : Int32) (ge : Int32) (wh : Int32) (hb0 : ¬ bo < 0) (hb1 : ¬ 9 < bo) (hl0 : ¬ lo < 0) (hl1 : ¬ 9 < lo) (h1 : ¬ ge < 0) (h2 : 9 < ge) : kMX γ l yX11_rests cX11_rests 9 ((some .int)) ({ frames := 6, cells := 1, slots := 6, locals := 100 } : Room) [.ref x, .int bo, .int lo, .int ge, .int wh] [] := by
  refine k_ofWX (by decide) (Nat.le_of_ble_eq_true rfl) ?_
  intro p e s m below meth c A ls hC hlocks hT hw hl
  have hx := hC.1
  have hb := hC.2.1
  have hl : lv_has ls 9 [(0, .ref x), (1, .int bo), (2, .int lo), (3, .int ge), (4, .int wh)] := hl
  refine lv_iload_n hx hb dX11_rests_0 rfl (lv_at hl 1 rfl) ?_
  refine k_S (wr := []) 1 gw_1153 gw_1154 gw_1 gw_1155 hd_X11_isStake hC hw (c_X11_isStake_t γ l bo hb0 hb1) ⟨by decide, by decide⟩ ⟨by decide, by decide⟩ hl.1 rfl rfl (Nat.le_of_ble_eq_true rfl) [] [] rfl rfl rfl rfl (by decide) dX11_rests_1 (fun r w1 H locs hq hw => ?_)
  obtain ⟨rfl, rfl⟩ := hq
  have hw : kW γ A [] s H locs := hw
  refine W.eq (g2 := F0 m 4 ls [.int 1]) rfl ?_
  refine lv_if_eq (tgt := 27) hx hb dX11_rests_4 (by decide) (fun h => absurd h (by decide)) (fun _ => ?_)
  refine lv_iload_n hx hb dX11_rests_7 rfl (lv_at hl 2 rfl) ?_
  refine k_S (wr := []) 1 gw_1153 gw_1154 gw_1 gw_1155 hd_X11_isStake hC hw (c_X11_isStake_t γ l lo hl0 hl1) ⟨by decide, by decide⟩ ⟨by decide, by decide⟩ hl.1 rfl rfl (Nat.le_of_ble_eq_true rfl) [] [] rfl rfl rfl rfl (by decide) dX11_rests_8 (fun r w1 H locs hq hw => ?_)
  obtain ⟨rfl, rfl⟩ := hq
  have hw : kW γ A [] s H locs := hw
  refine W.eq (g2 := F0 m 11 ls [.int 1]) rfl ?_
  refine lv_if_eq (tgt := 27) hx hb dX11_rests_11 (by decide) (fun h => absurd h (by decide)) (fun _ => ?_)
  refine lv_iload_n hx hb dX11_rests_14 rfl (lv_at hl 3 rfl) ?_
  refine k_S (wr := []) 1 gw_1153 gw_1154 gw_1 gw_1155 hd_X11_isStake hC hw (c_X11_isStake_h γ l ge h1 h2) ⟨by decide, by decide⟩ ⟨by decide, by decide⟩ hl.1 rfl rfl (Nat.le_of_ble_eq_true rfl) [] [] rfl rfl rfl rfl (by decide) dX11_rests_15 (fun r w1 H locs hq hw => ?_)
  obtain ⟨rfl, rfl⟩ := hq
  have hw : kW γ A [] s H locs := hw
  refine W.eq (g2 := F0 m 18 ls [.int 0]) rfl ?_
  refine lv_if_eq (tgt := 27) hx hb dX11_rests_18 (by decide) (fun _ => ?_) (fun h => absurd (by decide) h)
  exact k_throw hC hl9 hw hl.1 hT hlocks dX11_rests_27 dX11_rests_30 dX11_rests_31 dX11_rests_34 (by decide) (Nat.le_of_ble_eq_true rfl) (by decide) (by decide) (by decide) (by decide)

set_option maxHeartbeats 4000000 in
set_option maxRecDepth 100000 in
theorem c_X11_rests_wh (γ : kΓ) (l : Launch) (hl9 : l.stackTraces = false) (x : Nat) (x0 : Nat) (x1 : Nat) (x2 : Nat) (x3 : Nat) (x4 : Nat) (x5 : Nat) (x6 : Nat) (x7 : Nat) (x8 : Nat) (x9 : Nat) (x10 : Nat) (bo : Int32) (lo : Int32) (ge : Int32) (wh : Int32) (hb0 : ¬ bo < 0) (hb1 : ¬ 9 < bo) (hl0 : ¬ lo < 0) (hl1 : ¬ 9 < lo) (hg0 : ¬ ge < 0) (hg1 : ¬ 9 < ge) (h1 : wh < -1) : kMX γ l yX11_rests cX11_rests 9 ((some .int)) ({ frames := 6, cells := 1, slots := 6, locals := 100 } : Room) [.ref x, .int bo, .int lo, .int ge, .int wh] [] := by
  refine k_ofWX (by decide) (Nat.le_of_ble_eq_true rfl) ?_
  intro p e s m below meth c A ls hC hlocks hT hw hl
  have hx := hC.1
  have hb := hC.2.1
  have hl : lv_has ls 9 [(0, .ref x), (1, .int bo), (2, .int lo), (3, .int ge), (4, .int wh)] := hl
  refine lv_iload_n hx hb dX11_rests_0 rfl (lv_at hl 1 rfl) ?_
  refine k_S (wr := []) 1 gw_1153 gw_1154 gw_1 gw_1155 hd_X11_isStake hC hw (c_X11_isStake_t γ l bo hb0 hb1) ⟨by decide, by decide⟩ ⟨by decide, by decide⟩ hl.1 rfl rfl (Nat.le_of_ble_eq_true rfl) [] [] rfl rfl rfl rfl (by decide) dX11_rests_1 (fun r w1 H locs hq hw => ?_)
  obtain ⟨rfl, rfl⟩ := hq
  have hw : kW γ A [] s H locs := hw
  refine W.eq (g2 := F0 m 4 ls [.int 1]) rfl ?_
  refine lv_if_eq (tgt := 27) hx hb dX11_rests_4 (by decide) (fun h => absurd h (by decide)) (fun _ => ?_)
  refine lv_iload_n hx hb dX11_rests_7 rfl (lv_at hl 2 rfl) ?_
  refine k_S (wr := []) 1 gw_1153 gw_1154 gw_1 gw_1155 hd_X11_isStake hC hw (c_X11_isStake_t γ l lo hl0 hl1) ⟨by decide, by decide⟩ ⟨by decide, by decide⟩ hl.1 rfl rfl (Nat.le_of_ble_eq_true rfl) [] [] rfl rfl rfl rfl (by decide) dX11_rests_8 (fun r w1 H locs hq hw => ?_)
  obtain ⟨rfl, rfl⟩ := hq
  have hw : kW γ A [] s H locs := hw
  refine W.eq (g2 := F0 m 11 ls [.int 1]) rfl ?_
  refine lv_if_eq (tgt := 27) hx hb dX11_rests_11 (by decide) (fun h => absurd h (by decide)) (fun _ => ?_)
  refine lv_iload_n hx hb dX11_rests_14 rfl (lv_at hl 3 rfl) ?_
  refine k_S (wr := []) 1 gw_1153 gw_1154 gw_1 gw_1155 hd_X11_isStake hC hw (c_X11_isStake_t γ l ge hg0 hg1) ⟨by decide, by decide⟩ ⟨by decide, by decide⟩ hl.1 rfl rfl (Nat.le_of_ble_eq_true rfl) [] [] rfl rfl rfl rfl (by decide) dX11_rests_15 (fun r w1 H locs hq hw => ?_)
  obtain ⟨rfl, rfl⟩ := hq
  have hw : kW γ A [] s H locs := hw
  refine W.eq (g2 := F0 m 18 ls [.int 1]) rfl ?_
  refine lv_if_eq (tgt := 27) hx hb dX11_rests_18 (by decide) (fun h => absurd h (by decide)) (fun _ => ?_)
  refine lv_iload hx hb dX11_rests_21 (lv_at hl 4 rfl) ?_
  refine lv_iconst (v := (-1)) hx hb dX11_rests_23 (by decide) ?_
  refine lv_icmp_ge (tgt := 35) hx hb dX11_rests_24 (by decide) (fun h => absurd h (fun h9 => absurd h1 (Int32.not_lt.mpr h9))) (fun _ => ?_)
  exact k_throw hC hl9 hw hl.1 hT hlocks dX11_rests_27 dX11_rests_30 dX11_rests_31 dX11_rests_34 (by decide) (Nat.le_of_ble_eq_true rfl) (by decide) (by decide) (by decide) (by decide)


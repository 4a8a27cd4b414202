theorem dX10_isDeed_0 : decode cX10_isDeed 0 = .ok (.aload_n 0, 1) := by decide +kernel
theorem dX10_isDeed_1 : decode cX10_isDeed 1 = .ok (.getstatic 42, 3) := by decide +kernel
theorem dX10_isDeed_4 : decode cX10_isDeed 4 = .ok (.if_acmp .eq 17, 3) := by decide +kernel
theorem dX10_isDeed_7 : decode cX10_isDeed 7 = .ok (.aload_n 0, 1) := by decide +kernel
theorem dX10_isDeed_8 : decode cX10_isDeed 8 = .ok (.getstatic 45, 3) := by decide +kernel
theorem dX10_isDeed_11 : decode cX10_isDeed 11 = .ok (.if_acmp .eq 10, 3) := by decide +kernel
theorem dX10_isDeed_14 : decode cX10_isDeed 14 = .ok (.aload_n 0, 1) := by decide +kernel
theorem dX10_isDeed_15 : decode cX10_isDeed 15 = .ok (.getstatic 48, 3) := by decide +kernel
theorem dX10_isDeed_18 : decode cX10_isDeed 18 = .ok (.if_acmp .ne 7, 3) := by decide +kernel
theorem dX10_isDeed_21 : decode cX10_isDeed 21 = .ok (.iconst 1, 1) := by decide +kernel
theorem dX10_isDeed_22 : decode cX10_isDeed 22 = .ok (.goto 4, 3) := by decide +kernel
theorem dX10_isDeed_25 : decode cX10_isDeed 25 = .ok (.iconst 0, 1) := by decide +kernel
theorem dX10_isDeed_26 : decode cX10_isDeed 26 = .ok (.ireturn, 1) := by decide +kernel
theorem dX3_lineOf_0 : decode cX3_lineOf 0 = .ok (.iload_n 0, 1) := by decide +kernel
theorem dX3_lineOf_1 : decode cX3_lineOf 1 = .ok (.bipush 64, 2) := by decide +kernel
theorem dX3_lineOf_3 : decode cX3_lineOf 3 = .ok (.imul, 1) := by decide +kernel
theorem dX3_lineOf_4 : decode cX3_lineOf 4 = .ok (.iload_n 1, 1) := by decide +kernel
theorem dX3_lineOf_5 : decode cX3_lineOf 5 = .ok (.bipush 8, 2) := by decide +kernel
theorem dX3_lineOf_7 : decode cX3_lineOf 7 = .ok (.imul, 1) := by decide +kernel
theorem dX3_lineOf_8 : decode cX3_lineOf 8 = .ok (.iadd, 1) := by decide +kernel
theorem dX3_lineOf_9 : decode cX3_lineOf 9 = .ok (.iload_n 2, 1) := by decide +kernel
theorem dX3_lineOf_10 : decode cX3_lineOf 10 = .ok (.iadd, 1) := by decide +kernel
theorem dX3_lineOf_11 : decode cX3_lineOf 11 = .ok (.ireturn, 1) := by decide +kernel
theorem dX5_readLine_0 : decode cX5_readLine 0 = .ok (.aload_n 0, 1) := by decide +kernel
theorem dX5_readLine_1 : decode cX5_readLine 1 = .ok (.getfield 15, 3) := by decide +kernel
theorem dX5_readLine_4 : decode cX5_readLine 4 = .ok (.getfield 36, 3) := by decide +kernel
theorem dX5_readLine_7 : decode cX5_readLine 7 = .ok (.astore_n 1, 1) := by decide +kernel
theorem dX5_readLine_8 : decode cX5_readLine 8 = .ok (.aload_n 1, 1) := by decide +kernel
theorem dX5_readLine_9 : decode cX5_readLine 9 = .ok (.invokevirtual 241, 3) := by decide +kernel
theorem dX5_readLine_12 : decode cX5_readLine 12 = .ok (.ifCond .ne 9, 3) := by decide +kernel
theorem dX5_readLine_15 : decode cX5_readLine 15 = .ok (.aload_n 0, 1) := by decide +kernel
theorem dX5_readLine_16 : decode cX5_readLine 16 = .ok (.iconst 1, 1) := by decide +kernel
theorem dX5_readLine_17 : decode cX5_readLine 17 = .ok (.invokevirtual 84, 3) := by decide +kernel
theorem dX5_readLine_20 : decode cX5_readLine 20 = .ok (.return_, 1) := by decide +kernel
theorem dX5_readLine_21 : decode cX5_readLine 21 = .ok (.aload_n 0, 1) := by decide +kernel
theorem dX5_readLine_22 : decode cX5_readLine 22 = .ok (.getfield 95, 3) := by decide +kernel
theorem dX5_readLine_25 : decode cX5_readLine 25 = .ok (.bipush 40, 2) := by decide +kernel
theorem dX5_readLine_27 : decode cX5_readLine 27 = .ok (.if_icmp .lt 9, 3) := by decide +kernel
theorem dX5_readLine_30 : decode cX5_readLine 30 = .ok (.aload_n 0, 1) := by decide +kernel
theorem dX5_readLine_31 : decode cX5_readLine 31 = .ok (.iconst 5, 1) := by decide +kernel
theorem dX5_readLine_32 : decode cX5_readLine 32 = .ok (.invokevirtual 84, 3) := by decide +kernel
theorem dX5_readLine_35 : decode cX5_readLine 35 = .ok (.return_, 1) := by decide +kernel
theorem dX5_readLine_36 : decode cX5_readLine 36 = .ok (.aload_n 0, 1) := by decide +kernel
theorem dX5_readLine_37 : decode cX5_readLine 37 = .ok (.getfield 15, 3) := by decide +kernel
theorem dX5_readLine_40 : decode cX5_readLine 40 = .ok (.invokevirtual 125, 3) := by decide +kernel
theorem dX5_readLine_43 : decode cX5_readLine 43 = .ok (.aload_n 0, 1) := by decide +kernel
theorem dX5_readLine_44 : decode cX5_readLine 44 = .ok (.invokevirtual 244, 3) := by decide +kernel
theorem dX5_readLine_47 : decode cX5_readLine 47 = .ok (.istore_n 2, 1) := by decide +kernel
theorem dX5_readLine_48 : decode cX5_readLine 48 = .ok (.aload_n 0, 1) := by decide +kernel
theorem dX5_readLine_49 : decode cX5_readLine 49 = .ok (.invokevirtual 156, 3) := by decide +kernel
theorem dX5_readLine_52 : decode cX5_readLine 52 = .ok (.iconst 0, 1) := by decide +kernel
theorem dX5_readLine_53 : decode cX5_readLine 53 = .ok (.istore_n 3, 1) := by decide +kernel
theorem dX5_readLine_54 : decode cX5_readLine 54 = .ok (.aload_n 1, 1) := by decide +kernel
theorem dX5_readLine_55 : decode cX5_readLine 55 = .ok (.getstatic 247, 3) := by decide +kernel
theorem dX5_readLine_58 : decode cX5_readLine 58 = .ok (.if_acmp .eq 12, 3) := by decide +kernel
theorem dX5_readLine_61 : decode cX5_readLine 61 = .ok (.aload_n 0, 1) := by decide +kernel
theorem dX5_readLine_62 : decode cX5_readLine 62 = .ok (.invokevirtual 152, 3) := by decide +kernel
theorem dX5_readLine_65 : decode cX5_readLine 65 = .ok (.istore_n 3, 1) := by decide +kernel
theorem dX5_readLine_66 : decode cX5_readLine 66 = .ok (.aload_n 0, 1) := by decide +kernel
theorem dX5_readLine_67 : decode cX5_readLine 67 = .ok (.invokevirtual 156, 3) := by decide +kernel
theorem dX5_readLine_70 : decode cX5_readLine 70 = .ok (.aload_n 0, 1) := by decide +kernel
theorem dX5_readLine_71 : decode cX5_readLine 71 = .ok (.bipush 59, 2) := by decide +kernel
theorem dX5_readLine_73 : decode cX5_readLine 73 = .ok (.invokevirtual 145, 3) := by decide +kernel
theorem dX5_readLine_76 : decode cX5_readLine 76 = .ok (.aload_n 0, 1) := by decide +kernel
theorem dX5_readLine_77 : decode cX5_readLine 77 = .ok (.getfield 91, 3) := by decide +kernel
theorem dX5_readLine_80 : decode cX5_readLine 80 = .ok (.ifCond .ne 31, 3) := by decide +kernel
theorem dX5_readLine_83 : decode cX5_readLine 83 = .ok (.aload_n 0, 1) := by decide +kernel
theorem dX5_readLine_84 : decode cX5_readLine 84 = .ok (.getfield 9, 3) := by decide +kernel
theorem dX5_readLine_87 : decode cX5_readLine 87 = .ok (.aload_n 0, 1) := by decide +kernel
theorem dX5_readLine_88 : decode cX5_readLine 88 = .ok (.getfield 95, 3) := by decide +kernel
theorem dX5_readLine_91 : decode cX5_readLine 91 = .ok (.aload_n 1, 1) := by decide +kernel
theorem dX5_readLine_92 : decode cX5_readLine 92 = .ok (.getfield 173, 3) := by decide +kernel
theorem dX5_readLine_95 : decode cX5_readLine 95 = .ok (.iload_n 2, 1) := by decide +kernel
theorem dX5_readLine_96 : decode cX5_readLine 96 = .ok (.iload_n 3, 1) := by decide +kernel
theorem dX5_readLine_97 : decode cX5_readLine 97 = .ok (.invokestatic 250, 3) := by decide +kernel
theorem dX5_readLine_100 : decode cX5_readLine 100 = .ok (.iastore, 1) := by decide +kernel
theorem dX5_readLine_101 : decode cX5_readLine 101 = .ok (.aload_n 0, 1) := by decide +kernel
theorem dX5_readLine_102 : decode cX5_readLine 102 = .ok (.dup, 1) := by decide +kernel
theorem dX5_readLine_103 : decode cX5_readLine 103 = .ok (.getfield 95, 3) := by decide +kernel
theorem dX5_readLine_106 : decode cX5_readLine 106 = .ok (.iconst 1, 1) := by decide +kernel
theorem dX5_readLine_107 : decode cX5_readLine 107 = .ok (.iadd, 1) := by decide +kernel
theorem dX5_readLine_108 : decode cX5_readLine 108 = .ok (.putfield 95, 3) := by decide +kernel
theorem dX5_readLine_111 : decode cX5_readLine 111 = .ok (.return_, 1) := by decide +kernel
def F_isDeed (w : Nat) : Int32 :=
  if w = 12 then 1 else (if w = 13 then 1 else (if w = 14 then 1 else 0))
set_option maxHeartbeats 4000000 in
set_option maxRecDepth 100000 in
theorem c_isDeed (γ : kΓ) (l : Launch) (w : Nat) (hwd : w < 26) : kM γ l yX10_isDeed cX10_isDeed 1 ((some .boolean)) ({ frames := 0, cells := 0, slots := 0, locals := 0 } : Room) [.ref (γ.2.2.2.2 w)] [] (fun r w1 => r = some (.int (F_isDeed w)) ∧ w1 = []) := by
  refine k_ofW (by decide) (Nat.le_of_ble_eq_true rfl) ?_
  intro p9 e s m below meth c A ls hC hr hlocks hname hw hl
  have hx := hC.1
  have hb := hC.2.1
  have hl : lv_has ls 1 [(0, .ref (γ.2.2.2.2 w))] := hl
  refine lv_aload_n hx hb dX10_isDeed_0 rfl (lv_at hl 0 rfl) ?_
  refine k_word hC hw (n := 12) (by decide) gw_676 dX10_isDeed_1 ?_
  refine lv_acmp_eq (rx := some (γ.2.2.2.2 w)) (ry := some (γ.2.2.2.2 12)) (tgt := 21) hx hb dX10_isDeed_4 (by decide) (fun c_256 => ?_) (fun c_256 => ?_)
  · have c_256 : w = 12 := (k_weq hC hwd (by decide)).mp c_256
    refine lv_iconst (v := 1) hx hb dX10_isDeed_21 (by decide) ?_
    refine lv_goto (tgt := 26) hx hb dX10_isDeed_22 (by decide) ?_
    have hE : (F_isDeed w) = 1 := by unfold F_isDeed; rw [if_pos c_256]
    have hw : kW γ A [] s s.heap [] := by first | (rw [hE]; exact hw) | exact hw
    exact k_zret hC hr hlocks rfl hw [] rfl rfl ⟨by rw [hE], rfl⟩ (by decide) (by decide) dX10_isDeed_26
  · have c_256 : ¬ w = 12 := fun h9 => c_256 ((k_weq hC hwd (by decide)).mpr h9)
    refine lv_aload_n hx hb dX10_isDeed_7 rfl (lv_at hl 0 rfl) ?_
    refine k_word hC hw (n := 13) (by decide) gw_678 dX10_isDeed_8 ?_
    refine lv_acmp_eq (rx := some (γ.2.2.2.2 w)) (ry := some (γ.2.2.2.2 13)) (tgt := 21) hx hb dX10_isDeed_11 (by decide) (fun c_257 => ?_) (fun c_257 => ?_)
    · have c_257 : w = 13 := (k_weq hC hwd (by decide)).mp c_257
      refine lv_iconst (v := 1) hx hb dX10_isDeed_21 (by decide) ?_
      refine lv_goto (tgt := 26) hx hb dX10_isDeed_22 (by decide) ?_
      have hE : (F_isDeed w) = 1 := by unfold F_isDeed; rw [if_neg c_256, if_pos c_257]
      have hw : kW γ A [] s s.heap [] := by first | (rw [hE]; exact hw) | exact hw
      exact k_zret hC hr hlocks rfl hw [] rfl rfl ⟨by rw [hE], rfl⟩ (by decide) (by decide) dX10_isDeed_26
    · have c_257 : ¬ w = 13 := fun h9 => c_257 ((k_weq hC hwd (by decide)).mpr h9)
      refine lv_aload_n hx hb dX10_isDeed_14 rfl (lv_at hl 0 rfl) ?_
      refine k_word hC hw (n := 14) (by decide) gw_680 dX10_isDeed_15 ?_
      refine lv_acmp_ne (rx := some (γ.2.2.2.2 w)) (ry := some (γ.2.2.2.2 14)) (tgt := 25) hx hb dX10_isDeed_18 (by decide) (fun c_258 => ?_) (fun c_258 => ?_)
      · have c_258 : ¬ w = 14 := fun h9 => c_258 ((k_weq hC hwd (by decide)).mpr h9)
        refine lv_iconst (v := 0) hx hb dX10_isDeed_25 (by decide) ?_
        have hE : (F_isDeed w) = 0 := by unfold F_isDeed; rw [if_neg c_256, if_neg c_257, if_neg c_258]
        have hw : kW γ A [] s s.heap [] := by first | (rw [hE]; exact hw) | exact hw
        exact k_zret hC hr hlocks rfl hw [] rfl rfl ⟨by rw [hE], rfl⟩ (by decide) (by decide) dX10_isDeed_26
      · have c_258 : w = 14 := (k_weq hC hwd (by decide)).mp c_258
        refine lv_iconst (v := 1) hx hb dX10_isDeed_21 (by decide) ?_
        refine lv_goto (tgt := 26) hx hb dX10_isDeed_22 (by decide) ?_
        have hE : (F_isDeed w) = 1 := by unfold F_isDeed; rw [if_neg c_256, if_neg c_257, if_pos c_258]
        have hw : kW γ A [] s s.heap [] := by first | (rw [hE]; exact hw) | exact hw
        exact k_zret hC hr hlocks rfl hw [] rfl rfl ⟨by rw [hE], rfl⟩ (by decide) (by decide) dX10_isDeed_26

def F_lineOf (k : Int32) (q : Int32) (t : Int32) : Int32 :=
  (((k * 64) + (q * 8)) + t)
set_option maxHeartbeats 4000000 in
set_option maxRecDepth 100000 in
theorem c_lineOf (γ : kΓ) (l : Launch) (k : Int32) (q : Int32) (t : Int32) : kM γ l yX3_lineOf cX3_lineOf 3 ((some .int)) ({ frames := 0, cells := 0, slots := 0, locals := 0 } : Room) [.int k, .int q, .int t] [] (fun r w1 => r = some (.int (F_lineOf k q t)) ∧ w1 = []) := by
  refine k_ofW (by decide) (Nat.le_of_ble_eq_true rfl) ?_
  intro p9 e s m below meth c A ls hC hr hlocks hname hw hl
  have hx := hC.1
  have hb := hC.2.1
  have hl : lv_has ls 3 [(0, .int k), (1, .int q), (2, .int t)] := hl
  refine lv_iload_n hx hb dX3_lineOf_0 rfl (lv_at hl 0 rfl) ?_
  refine lv_bipush (v := 64) hx hb dX3_lineOf_1 (by decide) ?_
  refine lv_imul hx hb dX3_lineOf_3 ?_
  refine lv_iload_n hx hb dX3_lineOf_4 rfl (lv_at hl 1 rfl) ?_
  refine lv_bipush (v := 8) hx hb dX3_lineOf_5 (by decide) ?_
  refine lv_imul hx hb dX3_lineOf_7 ?_
  refine lv_iadd hx hb dX3_lineOf_8 ?_
  refine lv_iload_n hx hb dX3_lineOf_9 rfl (lv_at hl 2 rfl) ?_
  refine lv_iadd hx hb dX3_lineOf_10 ?_
  have hE : (F_lineOf k q t) = (((k * 64) + (q * 8)) + t) := by unfold F_lineOf; rfl
  have hw : kW γ A [] s s.heap [] := by first | (rw [hE]; exact hw) | exact hw
  exact k_iret hC hr hlocks hw [] rfl rfl ⟨by rw [hE], rfl⟩ (by decide) (by decide) dX3_lineOf_11

def F_readLine (f : Nat → Int32) (n : Nat) (rs : rRS) (a : aAS) (mm : Nat) (ln : Nat → Int32) : rRS × Nat × (Nat → Int32) :=
  if (F_isDeed (tw f n (rs.2.1))) = 0 then ((F_fail f n rs 1), mm, ln) else (if (nI mm) < 40 then (if (tw f n (rs.2.1)) = 13 then (if ((F_passSign f n (F_passUF f n ((F_tenantHere f n (av f n rs) a).2)) 59).1) = 0 then ((F_passSign f n (F_passUF f n ((F_tenantHere f n (av f n rs) a).2)) 59), (mm + 1), (upd ln ((nI mm) : Int32).toNatClampNeg (F_lineOf (kWv.getD (tw f n (rs.2.1)) 0) ((F_tenantHere f n (av f n rs) a).1) 0))) else ((F_passSign f n (F_passUF f n ((F_tenantHere f n (av f n rs) a).2)) 59), mm, ln)) else (if ((F_passSign f n (F_passUF f n ((F_thoughtHere f n (F_passUF f n ((F_tenantHere f n (av f n rs) a).2)) a).2)) 59).1) = 0 then ((F_passSign f n (F_passUF f n ((F_thoughtHere f n (F_passUF f n ((F_tenantHere f n (av f n rs) a).2)) a).2)) 59), (mm + 1), (upd ln ((nI mm) : Int32).toNatClampNeg (F_lineOf (kWv.getD (tw f n (rs.2.1)) 0) ((F_tenantHere f n (av f n rs) a).1) ((F_thoughtHere f n (F_passUF f n ((F_tenantHere f n (av f n rs) a).2)) a).1)))) else ((F_passSign f n (F_passUF f n ((F_thoughtHere f n (F_passUF f n ((F_tenantHere f n (av f n rs) a).2)) a).2)) 59), mm, ln))) else ((F_fail f n rs 5), mm, ln))
set_option maxHeartbeats 4000000 in
set_option maxRecDepth 100000 in
theorem c_readLine (γ : kΓ) (l : Launch) (rr : Nat) (rl : Nat) (ab : Nat) (h : Nat) (hg : Nat) (n : Nat) (rs : rRS) (f : Nat → Int32) (a0 : Nat) (a1 : Nat) (a2 : Nat) (a3 : Nat) (a4 : Nat) (a5 : Nat) (a6 : Nat) (a7 : Nat) (a : aAS) (mm : Nat) (ln : Nat → Int32) (hn : n ≤ 1000) (hok : ∀ k, k < n → kok (f k) = true) (hA : aOK a) (hmm : mm ≤ 40) : kM γ l yX5_readLine cX5_readLine 4 none ({ frames := 3, cells := 0, slots := 0, locals := 82 } : Room) [.ref rr] ([(rr, .inr (5, [.ref h, .ref rl, .ref ab, .int (nI mm), .int (rs.1)]))] ++ (tWd γ h hg n f (rs.2.1) (rs.2.2.1) (rs.2.2.2)) ++ [(rl, .inl (γ.2.1 0, 40, .inl ln))] ++ (aWd γ ab a0 a1 a2 a3 a4 a5 a6 a7 a)) (fun r w1 => r = none ∧ w1 = ([(rr, .inr (5, [.ref h, .ref rl, .ref ab, .int (nI ((F_readLine f n rs a mm ln).2.1)), .int (((F_readLine f n rs a mm ln).1).1)]))] ++ (tWd γ h hg n f (((F_readLine f n rs a mm ln).1).2.1) (((F_readLine f n rs a mm ln).1).2.2.1) (((F_readLine f n rs a mm ln).1).2.2.2)) ++ [(rl, .inl (γ.2.1 0, 40, .inl ((F_readLine f n rs a mm ln).2.2)))] ++ (aWd γ ab a0 a1 a2 a3 a4 a5 a6 a7 a))) := by
  refine k_ofW (by decide) (Nat.le_of_ble_eq_true rfl) ?_
  intro p9 e s m below meth c A ls hC hr hlocks hname hw hl
  have hx := hC.1
  have hb := hC.2.1
  have hl : lv_has ls 4 [(0, .ref rr)] := hl
  have hT : (a.2.2.2.2.2.2.2.1) ≤ 8 := hA.1
  have hQ : (a.2.2.2.2.2.2.2.2.1) ≤ 5 := hA.2.1
  have hE9 : (a.2.2.2.2.2.2.2.2.2.2.2.2.2.1) ≤ 1000 := hA.2.2
  refine lv_aload_n hx hb dX5_readLine_0 rfl (lv_at hl 0 rfl) ?_
  refine fg_RX5_15 hC hw 0 rfl rfl dX5_readLine_1 ?_
  refine fg_RX5_36 hC hw 1 rfl rfl dX5_readLine_4 ?_
  refine lv_astore_n (lv' := [(1, .ref (γ.2.2.2.2 (tw f n (rs.2.1)))), (0, .ref rr)]) hx hb dX5_readLine_7 rfl hl (by decide) rfl (fun ls hl => ?_)
  refine lv_aload_n hx hb dX5_readLine_8 rfl (lv_at hl 0 rfl) ?_
  refine k_VO (wr := ([(rr, .inr (5, [.ref h, .ref rl, .ref ab, .int (nI mm), .int (rs.1)]))] ++ (tWd γ h hg n f (rs.2.1) (rs.2.2.1) (rs.2.2.2)) ++ [(rl, .inl (γ.2.1 0, 40, .inl ln))] ++ (aWd γ ab a0 a1 a2 a3 a4 a5 a6 a7 a))) 0 gw_672 gw_673 gw_674 gw_4 gw_675 hd_X10_isDeed hC hw (c_isDeed γ l (tw f n (rs.2.1)) tw_lt) ⟨by decide, by decide⟩ ⟨by decide, by decide⟩ hl.1 rfl rfl (tw_lt) rfl (Nat.le_of_ble_eq_true rfl) [] [0, 1, 2, 3, 4, 5, 6, 7, 8, 9, 10, 11] rfl rfl rfl rfl (by decide) dX5_readLine_9 (fun r w1 H locs hq hw => ?_)
  obtain ⟨rfl, rfl⟩ := hq
  have hw : kW γ A ([(rr, .inr (5, [.ref h, .ref rl, .ref ab, .int (nI mm), .int (rs.1)]))] ++ (tWd γ h hg n f (rs.2.1) (rs.2.2.1) (rs.2.2.2)) ++ [(rl, .inl (γ.2.1 0, 40, .inl ln))] ++ (aWd γ ab a0 a1 a2 a3 a4 a5 a6 a7 a)) s H locs := hw
  refine W.eq (g2 := F0 m 12 ls [.int (F_isDeed (tw f n (rs.2.1)))]) rfl ?_
  refine lv_if_ne (tgt := 21) hx hb dX5_readLine_12 (by decide) (fun c_266 => ?_) (fun c_266 => ?_)
  · refine lv_aload_n hx hb dX5_readLine_21 rfl (lv_at hl 1 rfl) ?_
    refine fg_RX5_95 hC hw 0 rfl rfl dX5_readLine_22 ?_
    refine lv_bipush (v := 40) hx hb dX5_readLine_25 (by decide) ?_
    refine lv_icmp_lt (tgt := 36) hx hb dX5_readLine_27 (by decide) (fun c_267 => ?_) (fun c_267 => ?_)
    · refine lv_aload_n hx hb dX5_readLine_36 rfl (lv_at hl 1 rfl) ?_
      refine fg_RX5_15 hC hw 0 rfl rfl dX5_readLine_37 ?_
      refine k_V (wr := ([(rr, .inr (5, [.ref h, .ref rl, .ref ab, .int (nI mm), .int (rs.1)])), (rl, .inl (γ.2.1 0, 40, .inl ln))] ++ (aWd γ ab a0 a1 a2 a3 a4 a5 a6 a7 a))) 0 gw_497 gw_461 gw_462 gw_2 gw_463 hd_X8_advance hC hw (c_av γ l h hg n rs f hn hok) ⟨by decide, by decide⟩ ⟨by decide, by decide⟩ hl.1 rfl 1 rfl rfl rfl (Nat.le_of_ble_eq_true rfl) [1, 2] [0, 3, 4, 5, 6, 7, 8, 9, 10, 11] rfl rfl rfl rfl (by decide) dX5_readLine_40 (fun r w1 H locs hq hw => ?_)
      obtain ⟨rfl, rfl⟩ := hq
      have hw : kW γ A ([(rr, .inr (5, [.ref h, .ref rl, .ref ab, .int (nI mm), .int (rs.1)])), (rl, .inl (γ.2.1 0, 40, .inl ln))] ++ (aWd γ ab a0 a1 a2 a3 a4 a5 a6 a7 a) ++ (tWd γ h hg n f ((av f n rs).2.1) ((av f n rs).2.2.1) ((av f n rs).2.2.2))) s H locs := hw
      refine W.eq (g2 := F0 m 43 ls []) rfl ?_
      refine lv_aload_n hx hb dX5_readLine_43 rfl (lv_at hl 1 rfl) ?_
      refine k_V (wr := [(rl, .inl (γ.2.1 0, 40, .inl ln))]) 0 gw_682 gw_684 gp_23 gw_14 gw_685 hd_X5_tenantHere hC hw (c_tenantHere γ l rr rl ab (nI mm) h hg n (av f n rs) f a0 a1 a2 a3 a4 a5 a6 a7 a hn hok hA) ⟨by decide, by decide⟩ ⟨by decide, by decide⟩ hl.1 rfl 0 rfl rfl rfl (Nat.le_of_ble_eq_true rfl) [0, 10, 11, 2, 3, 4, 5, 6, 7, 8, 9] [1] rfl rfl rfl rfl (by decide) dX5_readLine_44 (fun r w1 H locs hq hw => ?_)
      obtain ⟨rfl, rfl⟩ := hq
      have hw : kW γ A ([(rl, .inl (γ.2.1 0, 40, .inl ln)), (rr, .inr (5, [.ref h, .ref rl, .ref ab, .int (nI mm), .int (((F_tenantHere f n (av f n rs) a).2).1)]))] ++ (tWd γ h hg n f (((F_tenantHere f n (av f n rs) a).2).2.1) (((F_tenantHere f n (av f n rs) a).2).2.2.1) (((F_tenantHere f n (av f n rs) a).2).2.2.2)) ++ (aWd γ ab a0 a1 a2 a3 a4 a5 a6 a7 a)) s H locs := hw
      refine W.eq (g2 := F0 m 47 ls [.int ((F_tenantHere f n (av f n rs) a).1)]) rfl ?_
      refine lv_istore_n (lv' := [(2, .int ((F_tenantHere f n (av f n rs) a).1)), (1, .ref (γ.2.2.2.2 (tw f n (rs.2.1)))), (0, .ref rr)]) hx hb dX5_readLine_47 rfl hl (by decide) rfl (fun ls hl => ?_)
      refine lv_aload_n hx hb dX5_readLine_48 rfl (lv_at hl 2 rfl) ?_
      refine k_V (wr := ([(rl, .inl (γ.2.1 0, 40, .inl ln))] ++ (aWd γ ab a0 a1 a2 a3 a4 a5 a6 a7 a))) 0 gw_513 gw_515 gp_7 gw_14 gw_516 hd_X5_passUnlessFault hC hw (c_passUF γ l rr rl ab (nI mm) h hg n ((F_tenantHere f n (av f n rs) a).2) f hn hok) ⟨by decide, by decide⟩ ⟨by decide, by decide⟩ hl.1 rfl 1 rfl rfl rfl (Nat.le_of_ble_eq_true rfl) [1, 2, 3] [0, 4, 5, 6, 7, 8, 9, 10, 11] rfl rfl rfl rfl (by decide) dX5_readLine_49 (fun r w1 H locs hq hw => ?_)
      obtain ⟨rfl, rfl⟩ := hq
      have hw : kW γ A ([(rl, .inl (γ.2.1 0, 40, .inl ln))] ++ (aWd γ ab a0 a1 a2 a3 a4 a5 a6 a7 a) ++ [(rr, .inr (5, [.ref h, .ref rl, .ref ab, .int (nI mm), .int ((F_passUF f n ((F_tenantHere f n (av f n rs) a).2)).1)]))] ++ (tWd γ h hg n f ((F_passUF f n ((F_tenantHere f n (av f n rs) a).2)).2.1) ((F_passUF f n ((F_tenantHere f n (av f n rs) a).2)).2.2.1) ((F_passUF f n ((F_tenantHere f n (av f n rs) a).2)).2.2.2))) s H locs := hw
      refine W.eq (g2 := F0 m 52 ls []) rfl ?_
      refine lv_iconst (v := 0) hx hb dX5_readLine_52 (by decide) ?_
      refine lv_istore_n (lv' := [(3, .int 0), (2, .int ((F_tenantHere f n (av f n rs) a).1)), (1, .ref (γ.2.2.2.2 (tw f n (rs.2.1)))), (0, .ref rr)]) hx hb dX5_readLine_53 rfl hl (by decide) rfl (fun ls hl => ?_)
      refine lv_aload_n hx hb dX5_readLine_54 rfl (lv_at hl 2 rfl) ?_
      refine k_word hC hw (n := 13) (by decide) gw_686 dX5_readLine_55 ?_
      refine lv_acmp_eq (rx := some (γ.2.2.2.2 (tw f n (rs.2.1)))) (ry := some (γ.2.2.2.2 13)) (tgt := 70) hx hb dX5_readLine_58 (by decide) (fun c_268 => ?_) (fun c_268 => ?_)
      · have c_268 : (tw f n (rs.2.1)) = 13 := (k_weq hC (tw_lt) (by decide)).mp c_268
        refine lv_aload_n hx hb dX5_readLine_70 rfl (lv_at hl 3 rfl) ?_
        refine lv_bipush (v := 59) hx hb dX5_readLine_71 (by decide) ?_
        refine k_V (wr := ([(rl, .inl (γ.2.1 0, 40, .inl ln))] ++ (aWd γ ab a0 a1 a2 a3 a4 a5 a6 a7 a))) 1 gw_529 gw_531 gp_10 gw_14 gw_532 hd_X5_passSign hC hw (c_passSign γ l rr rl ab (nI mm) h hg n (F_passUF f n ((F_tenantHere f n (av f n rs) a).2)) f 59 hn hok) ⟨by decide, by decide⟩ ⟨by decide, by decide⟩ hl.1 rfl 9 rfl rfl rfl (Nat.le_of_ble_eq_true rfl) [9, 10, 11] [0, 1, 2, 3, 4, 5, 6, 7, 8] rfl rfl rfl rfl (by decide) dX5_readLine_73 (fun r w1 H locs hq hw => ?_)
        obtain ⟨rfl, rfl⟩ := hq
        have hw : kW γ A ([(rl, .inl (γ.2.1 0, 40, .inl ln))] ++ (aWd γ ab a0 a1 a2 a3 a4 a5 a6 a7 a) ++ [(rr, .inr (5, [.ref h, .ref rl, .ref ab, .int (nI mm), .int ((F_passSign f n (F_passUF f n ((F_tenantHere f n (av f n rs) a).2)) 59).1)]))] ++ (tWd γ h hg n f ((F_passSign f n (F_passUF f n ((F_tenantHere f n (av f n rs) a).2)) 59).2.1) ((F_passSign f n (F_passUF f n ((F_tenantHere f n (av f n rs) a).2)) 59).2.2.1) ((F_passSign f n (F_passUF f n ((F_tenantHere f n (av f n rs) a).2)) 59).2.2.2))) s H locs := hw
        refine W.eq (g2 := F0 m 76 ls []) rfl ?_
        refine lv_aload_n hx hb dX5_readLine_76 rfl (lv_at hl 3 rfl) ?_
        refine fg_RX5_91 hC hw 9 rfl rfl dX5_readLine_77 ?_
        refine lv_if_ne (tgt := 111) hx hb dX5_readLine_80 (by decide) (fun c_269 => ?_) (fun c_269 => ?_)
        · have hE : (F_readLine f n rs a mm ln) = ((F_passSign f n (F_passUF f n ((F_tenantHere f n (av f n rs) a).2)) 59), mm, ln) := by unfold F_readLine; rw [if_neg c_266, if_pos c_267, if_pos c_268, if_neg c_269]
          have hw : kW γ A ([(rl, .inl (γ.2.1 0, 40, .inl ((F_readLine f n rs a mm ln).2.2)))] ++ (aWd γ ab a0 a1 a2 a3 a4 a5 a6 a7 a) ++ [(rr, .inr (5, [.ref h, .ref rl, .ref ab, .int (nI ((F_readLine f n rs a mm ln).2.1)), .int (((F_readLine f n rs a mm ln).1).1)]))] ++ (tWd γ h hg n f (((F_readLine f n rs a mm ln).1).2.1) (((F_readLine f n rs a mm ln).1).2.2.1) (((F_readLine f n rs a mm ln).1).2.2.2))) s H locs := by first | (rw [hE]; exact hw) | exact hw
          exact k_vret hC hr hlocks hw [9, 10, 11, 0, 1, 2, 3, 4, 5, 6, 7, 8] rfl rfl ⟨rfl, rfl⟩ (by decide) (by decide) dX5_readLine_111
        · refine lv_aload_n hx hb dX5_readLine_83 rfl (lv_at hl 3 rfl) ?_
          refine fg_RX5_9 hC hw 9 rfl rfl dX5_readLine_84 ?_
          refine lv_aload_n hx hb dX5_readLine_87 rfl (lv_at hl 3 rfl) ?_
          refine fg_RX5_95 hC hw 9 rfl rfl dX5_readLine_88 ?_
          refine lv_aload_n hx hb dX5_readLine_91 rfl (lv_at hl 2 rfl) ?_
          refine k_wordN hC hw (k_zw hC).2.2.2.1 (tw_lt) nw_1834 dX5_readLine_92 ?_
          refine lv_iload_n hx hb dX5_readLine_95 rfl (lv_at hl 1 rfl) ?_
          refine lv_iload_n hx hb dX5_readLine_96 rfl (lv_at hl 0 rfl) ?_
          refine k_S (wr := ([(rl, .inl (γ.2.1 0, 40, .inl ln))] ++ (aWd γ ab a0 a1 a2 a3 a4 a5 a6 a7 a) ++ [(rr, .inr (5, [.ref h, .ref rl, .ref ab, .int (nI mm), .int ((F_passSign f n (F_passUF f n ((F_tenantHere f n (av f n rs) a).2)) 59).1)]))] ++ (tWd γ h hg n f ((F_passSign f n (F_passUF f n ((F_tenantHere f n (av f n rs) a).2)) 59).2.1) ((F_passSign f n (F_passUF f n ((F_tenantHere f n (av f n rs) a).2)) 59).2.2.1) ((F_passSign f n (F_passUF f n ((F_tenantHere f n (av f n rs) a).2)) 59).2.2.2)))) 3 gw_687 gw_688 gw_8 gw_689 hd_X3_lineOf hC hw (c_lineOf γ l (kWv.getD (tw f n (rs.2.1)) 0) ((F_tenantHere f n (av f n rs) a).1) 0) ⟨by decide, by decide⟩ ⟨by decide, by decide⟩ hl.1 rfl rfl (Nat.le_of_ble_eq_true rfl) [] [0, 1, 2, 3, 4, 5, 6, 7, 8, 9, 10, 11] rfl rfl rfl rfl (by decide) dX5_readLine_97 (fun r w1 H locs hq hw => ?_)
          obtain ⟨rfl, rfl⟩ := hq
          have hw : kW γ A ([(rl, .inl (γ.2.1 0, 40, .inl ln))] ++ (aWd γ ab a0 a1 a2 a3 a4 a5 a6 a7 a) ++ [(rr, .inr (5, [.ref h, .ref rl, .ref ab, .int (nI mm), .int ((F_passSign f n (F_passUF f n ((F_tenantHere f n (av f n rs) a).2)) 59).1)]))] ++ (tWd γ h hg n f ((F_passSign f n (F_passUF f n ((F_tenantHere f n (av f n rs) a).2)) 59).2.1) ((F_passSign f n (F_passUF f n ((F_tenantHere f n (av f n rs) a).2)) 59).2.2.1) ((F_passSign f n (F_passUF f n ((F_tenantHere f n (av f n rs) a).2)) 59).2.2.2))) s H locs := hw
          refine W.eq (g2 := F0 m 100 ls [.int (F_lineOf (kWv.getD (tw f n (rs.2.1)) 0) ((F_tenantHere f n (av f n rs) a).1) 0), .int (nI mm), .ref rl]) rfl ?_
          refine k_iast hC hw 0 rfl (vp_in_nI (lt_c (T := mm) (k := 40) (by decide) (by omega) (Int32.not_le.mpr c_267)) (by decide)) dX5_readLine_100 (fun H locs hw => ?_)
          have hw : kW γ A ([(rl, .inl (γ.2.1 0, 40, .inl (upd ln ((nI mm) : Int32).toNatClampNeg (F_lineOf (kWv.getD (tw f n (rs.2.1)) 0) ((F_tenantHere f n (av f n rs) a).1) 0))))] ++ (aWd γ ab a0 a1 a2 a3 a4 a5 a6 a7 a) ++ [(rr, .inr (5, [.ref h, .ref rl, .ref ab, .int (nI mm), .int ((F_passSign f n (F_passUF f n ((F_tenantHere f n (av f n rs) a).2)) 59).1)]))] ++ (tWd γ h hg n f ((F_passSign f n (F_passUF f n ((F_tenantHere f n (av f n rs) a).2)) 59).2.1) ((F_passSign f n (F_passUF f n ((F_tenantHere f n (av f n rs) a).2)) 59).2.2.1) ((F_passSign f n (F_passUF f n ((F_tenantHere f n (av f n rs) a).2)) 59).2.2.2))) s H locs := hw
          refine lv_aload_n hx hb dX5_readLine_101 rfl (lv_at hl 3 rfl) ?_
          refine lv_dup hx hb dX5_readLine_102 rfl ?_
          refine fg_RX5_95 hC hw 9 rfl rfl dX5_readLine_103 ?_
          refine lv_iconst (v := 1) hx hb dX5_readLine_106 (by decide) ?_
          refine lv_iadd hx hb dX5_readLine_107 ?_
          refine lv_topi (fun x_270 ex_270 => ?_)
          obtain rfl : x_270 = (nI (mm + 1)) := ex_270.trans (nI_1 _)
          refine fs_RX5_95 hC hw 9 rfl rfl rfl (Nat.le_of_ble_eq_true rfl) dX5_readLine_108 (fun H locs hw => ?_)
          have hw : kW γ A ([(rl, .inl (γ.2.1 0, 40, .inl (upd ln ((nI mm) : Int32).toNatClampNeg (F_lineOf (kWv.getD (tw f n (rs.2.1)) 0) ((F_tenantHere f n (av f n rs) a).1) 0))))] ++ (aWd γ ab a0 a1 a2 a3 a4 a5 a6 a7 a) ++ [(rr, .inr (5, [.ref h, .ref rl, .ref ab, .int (nI (mm + 1)), .int ((F_passSign f n (F_passUF f n ((F_tenantHere f n (av f n rs) a).2)) 59).1)]))] ++ (tWd γ h hg n f ((F_passSign f n (F_passUF f n ((F_tenantHere f n (av f n rs) a).2)) 59).2.1) ((F_passSign f n (F_passUF f n ((F_tenantHere f n (av f n rs) a).2)) 59).2.2.1) ((F_passSign f n (F_passUF f n ((F_tenantHere f n (av f n rs) a).2)) 59).2.2.2))) s H locs := hw
          have hE : (F_readLine f n rs a mm ln) = ((F_passSign f n (F_passUF f n ((F_tenantHere f n (av f n rs) a).2)) 59), (mm + 1), (upd ln ((nI mm) : Int32).toNatClampNeg (F_lineOf (kWv.getD (tw f n (rs.2.1)) 0) ((F_tenantHere f n (av f n rs) a).1) 0))) := by unfold F_readLine; rw [if_neg c_266, if_pos c_267, if_pos c_268, if_pos c_269]
          have hw : kW γ A ([(rl, .inl (γ.2.1 0, 40, .inl ((F_readLine f n rs a mm ln).2.2)))] ++ (aWd γ ab a0 a1 a2 a3 a4 a5 a6 a7 a) ++ [(rr, .inr (5, [.ref h, .ref rl, .ref ab, .int (nI ((F_readLine f n rs a mm ln).2.1)), .int (((F_readLine f n rs a mm ln).1).1)]))] ++ (tWd γ h hg n f (((F_readLine f n rs a mm ln).1).2.1) (((F_readLine f n rs a mm ln).1).2.2.1) (((F_readLine f n rs a mm ln).1).2.2.2))) s H locs := by first | (rw [hE]; exact hw) | exact hw
          exact k_vret hC hr hlocks hw [9, 10, 11, 0, 1, 2, 3, 4, 5, 6, 7, 8] rfl rfl ⟨rfl, rfl⟩ (by decide) (by decide) dX5_readLine_111
      · have c_268 : ¬ (tw f n (rs.2.1)) = 13 := fun h9 => c_268 ((k_weq hC (tw_lt) (by decide)).mpr h9)
        refine lv_aload_n hx hb dX5_readLine_61 rfl (lv_at hl 3 rfl) ?_
        refine k_V (wr := [(rl, .inl (γ.2.1 0, 40, .inl ln))]) 0 gw_543 gw_545 gp_12 gw_14 gw_546 hd_X5_thoughtHere hC hw (c_thoughtHere γ l rr rl ab (nI mm) h hg n (F_passUF f n ((F_tenantHere f n (av f n rs) a).2)) f a0 a1 a2 a3 a4 a5 a6 a7 a hn hok hA) ⟨by decide, by decide⟩ ⟨by decide, by decide⟩ hl.1 rfl 9 rfl rfl rfl (Nat.le_of_ble_eq_true rfl) [9, 10, 11, 1, 2, 3, 4, 5, 6, 7, 8] [0] rfl rfl rfl rfl (by decide) dX5_readLine_62 (fun r w1 H locs hq hw => ?_)
        obtain ⟨rfl, rfl⟩ := hq
        have hw : kW γ A ([(rl, .inl (γ.2.1 0, 40, .inl ln)), (rr, .inr (5, [.ref h, .ref rl, .ref ab, .int (nI mm), .int (((F_thoughtHere f n (F_passUF f n ((F_tenantHere f n (av f n rs) a).2)) a).2).1)]))] ++ (tWd γ h hg n f (((F_thoughtHere f n (F_passUF f n ((F_tenantHere f n (av f n rs) a).2)) a).2).2.1) (((F_thoughtHere f n (F_passUF f n ((F_tenantHere f n (av f n rs) a).2)) a).2).2.2.1) (((F_thoughtHere f n (F_passUF f n ((F_tenantHere f n (av f n rs) a).2)) a).2).2.2.2)) ++ (aWd γ ab a0 a1 a2 a3 a4 a5 a6 a7 a)) s H locs := hw
        refine W.eq (g2 := F0 m 65 ls [.int ((F_thoughtHere f n (F_passUF f n ((F_tenantHere f n (av f n rs) a).2)) a).1)]) rfl ?_
        refine lv_istore_n (lv' := [(3, .int ((F_thoughtHere f n (F_passUF f n ((F_tenantHere f n (av f n rs) a).2)) a).1)), (2, .int ((F_tenantHere f n (av f n rs) a).1)), (1, .ref (γ.2.2.2.2 (tw f n (rs.2.1)))), (0, .ref rr)]) hx hb dX5_readLine_65 rfl hl (by decide) rfl (fun ls hl => ?_)
        refine lv_aload_n hx hb dX5_readLine_66 rfl (lv_at hl 3 rfl) ?_
        refine k_V (wr := ([(rl, .inl (γ.2.1 0, 40, .inl ln))] ++ (aWd γ ab a0 a1 a2 a3 a4 a5 a6 a7 a))) 0 gw_513 gw_515 gp_7 gw_14 gw_516 hd_X5_passUnlessFault hC hw (c_passUF γ l rr rl ab (nI mm) h hg n ((F_thoughtHere f n (F_passUF f n ((F_tenantHere f n (av f n rs) a).2)) a).2) f hn hok) ⟨by decide, by decide⟩ ⟨by decide, by decide⟩ hl.1 rfl 1 rfl rfl rfl (Nat.le_of_ble_eq_true rfl) [1, 2, 3] [0, 4, 5, 6, 7, 8, 9, 10, 11] rfl rfl rfl rfl (by decide) dX5_readLine_67 (fun r w1 H locs hq hw => ?_)
        obtain ⟨rfl, rfl⟩ := hq
        have hw : kW γ A ([(rl, .inl (γ.2.1 0, 40, .inl ln))] ++ (aWd γ ab a0 a1 a2 a3 a4 a5 a6 a7 a) ++ [(rr, .inr (5, [.ref h, .ref rl, .ref ab, .int (nI mm), .int ((F_passUF f n ((F_thoughtHere f n (F_passUF f n ((F_tenantHere f n (av f n rs) a).2)) a).2)).1)]))] ++ (tWd γ h hg n f ((F_passUF f n ((F_thoughtHere f n (F_passUF f n ((F_tenantHere f n (av f n rs) a).2)) a).2)).2.1) ((F_passUF f n ((F_thoughtHere f n (F_passUF f n ((F_tenantHere f n (av f n rs) a).2)) a).2)).2.2.1) ((F_passUF f n ((F_thoughtHere f n (F_passUF f n ((F_tenantHere f n (av f n rs) a).2)) a).2)).2.2.2))) s H locs := hw
        refine W.eq (g2 := F0 m 70 ls []) rfl ?_
        refine lv_aload_n hx hb dX5_readLine_70 rfl (lv_at hl 3 rfl) ?_
        refine lv_bipush (v := 59) hx hb dX5_readLine_71 (by decide) ?_
        refine k_V (wr := ([(rl, .inl (γ.2.1 0, 40, .inl ln))] ++ (aWd γ ab a0 a1 a2 a3 a4 a5 a6 a7 a))) 1 gw_529 gw_531 gp_10 gw_14 gw_532 hd_X5_passSign hC hw (c_passSign γ l rr rl ab (nI mm) h hg n (F_passUF f n ((F_thoughtHere f n (F_passUF f n ((F_tenantHere f n (av f n rs) a).2)) a).2)) f 59 hn hok) ⟨by decide, by decide⟩ ⟨by decide, by decide⟩ hl.1 rfl 9 rfl rfl rfl (Nat.le_of_ble_eq_true rfl) [9, 10, 11] [0, 1, 2, 3, 4, 5, 6, 7, 8] rfl rfl rfl rfl (by decide) dX5_readLine_73 (fun r w1 H locs hq hw => ?_)
        obtain ⟨rfl, rfl⟩ := hq
        have hw : kW γ A ([(rl, .inl (γ.2.1 0, 40, .inl ln))] ++ (aWd γ ab a0 a1 a2 a3 a4 a5 a6 a7 a) ++ [(rr, .inr (5, [.ref h, .ref rl, .ref ab, .int (nI mm), .int ((F_passSign f n (F_passUF f n ((F_thoughtHere f n (F_passUF f n ((F_tenantHere f n (av f n rs) a).2)) a).2)) 59).1)]))] ++ (tWd γ h hg n f ((F_passSign f n (F_passUF f n ((F_thoughtHere f n (F_passUF f n ((F_tenantHere f n (av f n rs) a).2)) a).2)) 59).2.1) ((F_passSign f n (F_passUF f n ((F_thoughtHere f n (F_passUF f n ((F_tenantHere f n (av f n rs) a).2)) a).2)) 59).2.2.1) ((F_passSign f n (F_passUF f n ((F_thoughtHere f n (F_passUF f n ((F_tenantHere f n (av f n rs) a).2)) a).2)) 59).2.2.2))) s H locs := hw
        refine W.eq (g2 := F0 m 76 ls []) rfl ?_
        refine lv_aload_n hx hb dX5_readLine_76 rfl (lv_at hl 3 rfl) ?_
        refine fg_RX5_91 hC hw 9 rfl rfl dX5_readLine_77 ?_
        refine lv_if_ne (tgt := 111) hx hb dX5_readLine_80 (by decide) (fun c_271 => ?_) (fun c_271 => ?_)
        · have hE : (F_readLine f n rs a mm ln) = ((F_passSign f n (F_passUF f n ((F_thoughtHere f n (F_passUF f n ((F_tenantHere f n (av f n rs) a).2)) a).2)) 59), mm, ln) := by unfold F_readLine; rw [if_neg c_266, if_pos c_267, if_neg c_268, if_neg c_271]
          have hw : kW γ A ([(rl, .inl (γ.2.1 0, 40, .inl ((F_readLine f n rs a mm ln).2.2)))] ++ (aWd γ ab a0 a1 a2 a3 a4 a5 a6 a7 a) ++ [(rr, .inr (5, [.ref h, .ref rl, .ref ab, .int (nI ((F_readLine f n rs a mm ln).2.1)), .int (((F_readLine f n rs a mm ln).1).1)]))] ++ (tWd γ h hg n f (((F_readLine f n rs a mm ln).1).2.1) (((F_readLine f n rs a mm ln).1).2.2.1) (((F_readLine f n rs a mm ln).1).2.2.2))) s H locs := by first | (rw [hE]; exact hw) | exact hw
          exact k_vret hC hr hlocks hw [9, 10, 11, 0, 1, 2, 3, 4, 5, 6, 7, 8] rfl rfl ⟨rfl, rfl⟩ (by decide) (by decide) dX5_readLine_111
        · refine lv_aload_n hx hb dX5_readLine_83 rfl (lv_at hl 3 rfl) ?_
          refine fg_RX5_9 hC hw 9 rfl rfl dX5_readLine_84 ?_
          refine lv_aload_n hx hb dX5_readLine_87 rfl (lv_at hl 3 rfl) ?_
          refine fg_RX5_95 hC hw 9 rfl rfl dX5_readLine_88 ?_
          refine lv_aload_n hx hb dX5_readLine_91 rfl (lv_at hl 2 rfl) ?_
          refine k_wordN hC hw (k_zw hC).2.2.2.1 (tw_lt) nw_1834 dX5_readLine_92 ?_
          refine lv_iload_n hx hb dX5_readLine_95 rfl (lv_at hl 1 rfl) ?_
          refine lv_iload_n hx hb dX5_readLine_96 rfl (lv_at hl 0 rfl) ?_
          refine k_S (wr := ([(rl, .inl (γ.2.1 0, 40, .inl ln))] ++ (aWd γ ab a0 a1 a2 a3 a4 a5 a6 a7 a) ++ [(rr, .inr (5, [.ref h, .ref rl, .ref ab, .int (nI mm), .int ((F_passSign f n (F_passUF f n ((F_thoughtHere f n (F_passUF f n ((F_tenantHere f n (av f n rs) a).2)) a).2)) 59).1)]))] ++ (tWd γ h hg n f ((F_passSign f n (F_passUF f n ((F_thoughtHere f n (F_passUF f n ((F_tenantHere f n (av f n rs) a).2)) a).2)) 59).2.1) ((F_passSign f n (F_passUF f n ((F_thoughtHere f n (F_passUF f n ((F_tenantHere f n (av f n rs) a).2)) a).2)) 59).2.2.1) ((F_passSign f n (F_passUF f n ((F_thoughtHere f n (F_passUF f n ((F_tenantHere f n (av f n rs) a).2)) a).2)) 59).2.2.2)))) 3 gw_687 gw_688 gw_8 gw_689 hd_X3_lineOf hC hw (c_lineOf γ l (kWv.getD (tw f n (rs.2.1)) 0) ((F_tenantHere f n (av f n rs) a).1) ((F_thoughtHere f n (F_passUF f n ((F_tenantHere f n (av f n rs) a).2)) a).1)) ⟨by decide, by decide⟩ ⟨by decide, by decide⟩ hl.1 rfl rfl (Nat.le_of_ble_eq_true rfl) [] [0, 1, 2, 3, 4, 5, 6, 7, 8, 9, 10, 11] rfl rfl rfl rfl (by decide) dX5_readLine_97 (fun r w1 H locs hq hw => ?_)
          obtain ⟨rfl, rfl⟩ := hq
          have hw : kW γ A ([(rl, .inl (γ.2.1 0, 40, .inl ln))] ++ (aWd γ ab a0 a1 a2 a3 a4 a5 a6 a7 a) ++ [(rr, .inr (5, [.ref h, .ref rl, .ref ab, .int (nI mm), .int ((F_passSign f n (F_passUF f n ((F_thoughtHere f n (F_passUF f n ((F_tenantHere f n (av f n rs) a).2)) a).2)) 59).1)]))] ++ (tWd γ h hg n f ((F_passSign f n (F_passUF f n ((F_thoughtHere f n (F_passUF f n ((F_tenantHere f n (av f n rs) a).2)) a).2)) 59).2.1) ((F_passSign f n (F_passUF f n ((F_thoughtHere f n (F_passUF f n ((F_tenantHere f n (av f n rs) a).2)) a).2)) 59).2.2.1) ((F_passSign f n (F_passUF f n ((F_thoughtHere f n (F_passUF f n ((F_tenantHere f n (av f n rs) a).2)) a).2)) 59).2.2.2))) s H locs := hw
          refine W.eq (g2 := F0 m 100 ls [.int (F_lineOf (kWv.getD (tw f n (rs.2.1)) 0) ((F_tenantHere f n (av f n rs) a).1) ((F_thoughtHere f n (F_passUF f n ((F_tenantHere f n (av f n rs) a).2)) a).1)), .int (nI mm), .ref rl]) rfl ?_
          refine k_iast hC hw 0 rfl (vp_in_nI (lt_c (T := mm) (k := 40) (by decide) (by omega) (Int32.not_le.mpr c_267)) (by decide)) dX5_readLine_100 (fun H locs hw => ?_)
          have hw : kW γ A ([(rl, .inl (γ.2.1 0, 40, .inl (upd ln ((nI mm) : Int32).toNatClampNeg (F_lineOf (kWv.getD (tw f n (rs.2.1)) 0) ((F_tenantHere f n (av f n rs) a).1) ((F_thoughtHere f n (F_passUF f n ((F_tenantHere f n (av f n rs) a).2)) a).1)))))] ++ (aWd γ ab a0 a1 a2 a3 a4 a5 a6 a7 a) ++ [(rr, .inr (5, [.ref h, .ref rl, .ref ab, .int (nI mm), .int ((F_passSign f n (F_passUF f n ((F_thoughtHere f n (F_passUF f n ((F_tenantHere f n (av f n rs) a).2)) a).2)) 59).1)]))] ++ (tWd γ h hg n f ((F_passSign f n (F_passUF f n ((F_thoughtHere f n (F_passUF f n ((F_tenantHere f n (av f n rs) a).2)) a).2)) 59).2.1) ((F_passSign f n (F_passUF f n ((F_thoughtHere f n (F_passUF f n ((F_tenantHere f n (av f n rs) a).2)) a).2)) 59).2.2.1) ((F_passSign f n (F_passUF f n ((F_thoughtHere f n (F_passUF f n ((F_tenantHere f n (av f n rs) a).2)) a).2)) 59).2.2.2))) s H locs := hw
          refine lv_aload_n hx hb dX5_readLine_101 rfl (lv_at hl 3 rfl) ?_
          refine lv_dup hx hb dX5_readLine_102 rfl ?_
          refine fg_RX5_95 hC hw 9 rfl rfl dX5_readLine_103 ?_
          refine lv_iconst (v := 1) hx hb dX5_readLine_106 (by decide) ?_
          refine lv_iadd hx hb dX5_readLine_107 ?_
          refine lv_topi (fun x_272 ex_272 => ?_)
          obtain rfl : x_272 = (nI (mm + 1)) := ex_272.trans (nI_1 _)
          refine fs_RX5_95 hC hw 9 rfl rfl rfl (Nat.le_of_ble_eq_true rfl) dX5_readLine_108 (fun H locs hw => ?_)
          have hw : kW γ A ([(rl, .inl (γ.2.1 0, 40, .inl (upd ln ((nI mm) : Int32).toNatClampNeg (F_lineOf (kWv.getD (tw f n (rs.2.1)) 0) ((F_tenantHere f n (av f n rs) a).1) ((F_thoughtHere f n (F_passUF f n ((F_tenantHere f n (av f n rs) a).2)) a).1)))))] ++ (aWd γ ab a0 a1 a2 a3 a4 a5 a6 a7 a) ++ [(rr, .inr (5, [.ref h, .ref rl, .ref ab, .int (nI (mm + 1)), .int ((F_passSign f n (F_passUF f n ((F_thoughtHere f n (F_passUF f n ((F_tenantHere f n (av f n rs) a).2)) a).2)) 59).1)]))] ++ (tWd γ h hg n f ((F_passSign f n (F_passUF f n ((F_thoughtHere f n (F_passUF f n ((F_tenantHere f n (av f n rs) a).2)) a).2)) 59).2.1) ((F_passSign f n (F_passUF f n ((F_thoughtHere f n (F_passUF f n ((F_tenantHere f n (av f n rs) a).2)) a).2)) 59).2.2.1) ((F_passSign f n (F_passUF f n ((F_thoughtHere f n (F_passUF f n ((F_tenantHere f n (av f n rs) a).2)) a).2)) 59).2.2.2))) s H locs := hw
          have hE : (F_readLine f n rs a mm ln) = ((F_passSign f n (F_passUF f n ((F_thoughtHere f n (F_passUF f n ((F_tenantHere f n (av f n rs) a).2)) a).2)) 59), (mm + 1), (upd ln ((nI mm) : Int32).toNatClampNeg (F_lineOf (kWv.getD (tw f n (rs.2.1)) 0) ((F_tenantHere f n (av f n rs) a).1) ((F_thoughtHere f n (F_passUF f n ((F_tenantHere f n (av f n rs) a).2)) a).1)))) := by unfold F_readLine; rw [if_neg c_266, if_pos c_267, if_neg c_268, if_pos c_271]
          have hw : kW γ A ([(rl, .inl (γ.2.1 0, 40, .inl ((F_readLine f n rs a mm ln).2.2)))] ++ (aWd γ ab a0 a1 a2 a3 a4 a5 a6 a7 a) ++ [(rr, .inr (5, [.ref h, .ref rl, .ref ab, .int (nI ((F_readLine f n rs a mm ln).2.1)), .int (((F_readLine f n rs a mm ln).1).1)]))] ++ (tWd γ h hg n f (((F_readLine f n rs a mm ln).1).2.1) (((F_readLine f n rs a mm ln).1).2.2.1) (((F_readLine f n rs a mm ln).1).2.2.2))) s H locs := by first | (rw [hE]; exact hw) | exact hw
          exact k_vret hC hr hlocks hw [9, 10, 11, 0, 1, 2, 3, 4, 5, 6, 7, 8] rfl rfl ⟨rfl, rfl⟩ (by decide) (by decide) dX5_readLine_111
    · refine lv_aload_n hx hb dX5_readLine_30 rfl (lv_at hl 1 rfl) ?_
      refine lv_iconst (v := 5) hx hb dX5_readLine_31 (by decide) ?_
      refine k_V (wr := ([(rl, .inl (γ.2.1 0, 40, .inl ln))] ++ (aWd γ ab a0 a1 a2 a3 a4 a5 a6 a7 a))) 1 gw_493 gw_495 gp_5 gw_14 gw_496 hd_X5_fail hC hw (c_fail γ l rr rl ab (nI mm) h hg n rs f 5 hn hok) ⟨by decide, by decide⟩ ⟨by decide, by decide⟩ hl.1 rfl 0 rfl rfl rfl (Nat.le_of_ble_eq_true rfl) [0, 1, 2] [3, 4, 5, 6, 7, 8, 9, 10, 11] rfl rfl rfl rfl (by decide) dX5_readLine_32 (fun r w1 H locs hq hw => ?_)
      obtain ⟨rfl, rfl⟩ := hq
      have hw : kW γ A ([(rl, .inl (γ.2.1 0, 40, .inl ln))] ++ (aWd γ ab a0 a1 a2 a3 a4 a5 a6 a7 a) ++ [(rr, .inr (5, [.ref h, .ref rl, .ref ab, .int (nI mm), .int ((F_fail f n rs 5).1)]))] ++ (tWd γ h hg n f ((F_fail f n rs 5).2.1) ((F_fail f n rs 5).2.2.1) ((F_fail f n rs 5).2.2.2))) s H locs := hw
      refine W.eq (g2 := F0 m 35 ls []) rfl ?_
      have hE : (F_readLine f n rs a mm ln) = ((F_fail f n rs 5), mm, ln) := by unfold F_readLine; rw [if_neg c_266, if_neg c_267]
      have hw : kW γ A ([(rl, .inl (γ.2.1 0, 40, .inl ((F_readLine f n rs a mm ln).2.2)))] ++ (aWd γ ab a0 a1 a2 a3 a4 a5 a6 a7 a) ++ [(rr, .inr (5, [.ref h, .ref rl, .ref ab, .int (nI ((F_readLine f n rs a mm ln).2.1)), .int (((F_readLine f n rs a mm ln).1).1)]))] ++ (tWd γ h hg n f (((F_readLine f n rs a mm ln).1).2.1) (((F_readLine f n rs a mm ln).1).2.2.1) (((F_readLine f n rs a mm ln).1).2.2.2))) s H locs := by first | (rw [hE]; exact hw) | exact hw
      exact k_vret hC hr hlocks hw [9, 10, 11, 0, 1, 2, 3, 4, 5, 6, 7, 8] rfl rfl ⟨rfl, rfl⟩ (by decide) (by decide) dX5_readLine_35
  · refine lv_aload_n hx hb dX5_readLine_15 rfl (lv_at hl 1 rfl) ?_
    refine lv_iconst (v := 1) hx hb dX5_readLine_16 (by decide) ?_
    refine k_V (wr := ([(rl, .inl (γ.2.1 0, 40, .inl ln))] ++ (aWd γ ab a0 a1 a2 a3 a4 a5 a6 a7 a))) 1 gw_493 gw_495 gp_5 gw_14 gw_496 hd_X5_fail hC hw (c_fail γ l rr rl ab (nI mm) h hg n rs f 1 hn hok) ⟨by decide, by decide⟩ ⟨by decide, by decide⟩ hl.1 rfl 0 rfl rfl rfl (Nat.le_of_ble_eq_true rfl) [0, 1, 2] [3, 4, 5, 6, 7, 8, 9, 10, 11] rfl rfl rfl rfl (by decide) dX5_readLine_17 (fun r w1 H locs hq hw => ?_)
    obtain ⟨rfl, rfl⟩ := hq
    have hw : kW γ A ([(rl, .inl (γ.2.1 0, 40, .inl ln))] ++ (aWd γ ab a0 a1 a2 a3 a4 a5 a6 a7 a) ++ [(rr, .inr (5, [.ref h, .ref rl, .ref ab, .int (nI mm), .int ((F_fail f n rs 1).1)]))] ++ (tWd γ h hg n f ((F_fail f n rs 1).2.1) ((F_fail f n rs 1).2.2.1) ((F_fail f n rs 1).2.2.2))) s H locs := hw
    refine W.eq (g2 := F0 m 20 ls []) rfl ?_
    have hE : (F_readLine f n rs a mm ln) = ((F_fail f n rs 1), mm, ln) := by unfold F_readLine; rw [if_pos c_266]
    have hw : kW γ A ([(rl, .inl (γ.2.1 0, 40, .inl ((F_readLine f n rs a mm ln).2.2)))] ++ (aWd γ ab a0 a1 a2 a3 a4 a5 a6 a7 a) ++ [(rr, .inr (5, [.ref h, .ref rl, .ref ab, .int (nI ((F_readLine f n rs a mm ln).2.1)), .int (((F_readLine f n rs a mm ln).1).1)]))] ++ (tWd γ h hg n f (((F_readLine f n rs a mm ln).1).2.1) (((F_readLine f n rs a mm ln).1).2.2.1) (((F_readLine f n rs a mm ln).1).2.2.2))) s H locs := by first | (rw [hE]; exact hw) | exact hw
    exact k_vret hC hr hlocks hw [9, 10, 11, 0, 1, 2, 3, 4, 5, 6, 7, 8] rfl rfl ⟨rfl, rfl⟩ (by decide) (by decide) dX5_readLine_20

theorem ok_readLine {f : Nat → Int32} {n : Nat} {rs : rRS} {a : aAS} {mm : Nat} {ln : Nat → Int32} (hmm : mm ≤ 40) : (F_readLine f n rs a mm ln).2.1 ≤ 40 := by
  unfold F_readLine
  split
  · exact hmm
  · split
    · rename_i h9
      have h8 : mm < 40 := lt_c (T := mm) (k := 40) (by decide) (by omega) (Int32.not_le.mpr h9)
      repeat' split
      all_goals first | exact hmm | exact h8
    · exact hmm


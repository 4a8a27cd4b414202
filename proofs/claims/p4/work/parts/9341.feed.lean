theorem dX8_addBytes_0 : decode cX8_addBytes 0 = .ok (.bipush 56, 2) := by decide +kernel
theorem dX8_addBytes_2 : decode cX8_addBytes 2 = .ok (.istore_n 3, 1) := by decide +kernel
theorem dX8_addBytes_3 : decode cX8_addBytes 3 = .ok (.iload_n 3, 1) := by decide +kernel
theorem dX8_addBytes_4 : decode cX8_addBytes 4 = .ok (.ifCond .lt 72, 3) := by decide +kernel
theorem dX8_addBytes_7 : decode cX8_addBytes 7 = .ok (.lload_n 1, 1) := by decide +kernel
theorem dX8_addBytes_8 : decode cX8_addBytes 8 = .ok (.iload_n 3, 1) := by decide +kernel
theorem dX8_addBytes_9 : decode cX8_addBytes 9 = .ok (.lushr, 1) := by decide +kernel
theorem dX8_addBytes_10 : decode cX8_addBytes 10 = .ok (.l2i, 1) := by decide +kernel
theorem dX8_addBytes_11 : decode cX8_addBytes 11 = .ok (.sipush 255, 3) := by decide +kernel
theorem dX8_addBytes_14 : decode cX8_addBytes 14 = .ok (.iand, 1) := by decide +kernel
theorem dX8_addBytes_15 : decode cX8_addBytes 15 = .ok (.istore 4, 2) := by decide +kernel
theorem dX8_addBytes_17 : decode cX8_addBytes 17 = .ok (.iload 4, 2) := by decide +kernel
theorem dX8_addBytes_19 : decode cX8_addBytes 19 = .ok (.bipush 10, 2) := by decide +kernel
theorem dX8_addBytes_21 : decode cX8_addBytes 21 = .ok (.if_icmp .eq 17, 3) := by decide +kernel
theorem dX8_addBytes_24 : decode cX8_addBytes 24 = .ok (.iload 4, 2) := by decide +kernel
theorem dX8_addBytes_26 : decode cX8_addBytes 26 = .ok (.bipush 32, 2) := by decide +kernel
theorem dX8_addBytes_28 : decode cX8_addBytes 28 = .ok (.if_icmp .lt 42, 3) := by decide +kernel
theorem dX8_addBytes_31 : decode cX8_addBytes 31 = .ok (.iload 4, 2) := by decide +kernel
theorem dX8_addBytes_33 : decode cX8_addBytes 33 = .ok (.bipush 126, 2) := by decide +kernel
theorem dX8_addBytes_35 : decode cX8_addBytes 35 = .ok (.if_icmp .gt 35, 3) := by decide +kernel
theorem dX8_addBytes_38 : decode cX8_addBytes 38 = .ok (.aload_n 0, 1) := by decide +kernel
theorem dX8_addBytes_39 : decode cX8_addBytes 39 = .ok (.getfield 24, 3) := by decide +kernel
theorem dX8_addBytes_42 : decode cX8_addBytes 42 = .ok (.sipush 1000, 3) := by decide +kernel
theorem dX8_addBytes_45 : decode cX8_addBytes 45 = .ok (.if_icmp .ge 25, 3) := by decide +kernel
theorem dX8_addBytes_48 : decode cX8_addBytes 48 = .ok (.aload_n 0, 1) := by decide +kernel
theorem dX8_addBytes_49 : decode cX8_addBytes 49 = .ok (.getfield 9, 3) := by decide +kernel
theorem dX8_addBytes_52 : decode cX8_addBytes 52 = .ok (.aload_n 0, 1) := by decide +kernel
theorem dX8_addBytes_53 : decode cX8_addBytes 53 = .ok (.getfield 24, 3) := by decide +kernel
theorem dX8_addBytes_56 : decode cX8_addBytes 56 = .ok (.iload 4, 2) := by decide +kernel
theorem dX8_addBytes_58 : decode cX8_addBytes 58 = .ok (.i2b, 1) := by decide +kernel
theorem dX8_addBytes_59 : decode cX8_addBytes 59 = .ok (.bastore, 1) := by decide +kernel
theorem dX8_addBytes_60 : decode cX8_addBytes 60 = .ok (.aload_n 0, 1) := by decide +kernel
theorem dX8_addBytes_61 : decode cX8_addBytes 61 = .ok (.dup, 1) := by decide +kernel
theorem dX8_addBytes_62 : decode cX8_addBytes 62 = .ok (.getfield 24, 3) := by decide +kernel
theorem dX8_addBytes_65 : decode cX8_addBytes 65 = .ok (.iconst 1, 1) := by decide +kernel
theorem dX8_addBytes_66 : decode cX8_addBytes 66 = .ok (.iadd, 1) := by decide +kernel
theorem dX8_addBytes_67 : decode cX8_addBytes 67 = .ok (.putfield 24, 3) := by decide +kernel
theorem dX8_addBytes_70 : decode cX8_addBytes 70 = .ok (.iinc 3 (-8), 3) := by decide +kernel
theorem dX8_addBytes_73 : decode cX8_addBytes 73 = .ok (.goto (-70), 3) := by decide +kernel
theorem dX8_addBytes_76 : decode cX8_addBytes 76 = .ok (.return_, 1) := by decide +kernel
theorem dX11_feed_0 : decode cX11_feed 0 = .ok (.aload_n 0, 1) := by decide +kernel
theorem dX11_feed_1 : decode cX11_feed 1 = .ok (.getfield 10, 3) := by decide +kernel
theorem dX11_feed_4 : decode cX11_feed 4 = .ok (.lload_n 1, 1) := by decide +kernel
theorem dX11_feed_5 : decode cX11_feed 5 = .ok (.invokevirtual 81, 3) := by decide +kernel
theorem dX11_feed_8 : decode cX11_feed 8 = .ok (.aload_n 0, 1) := by decide +kernel
theorem dX11_feed_9 : decode cX11_feed 9 = .ok (.getfield 10, 3) := by decide +kernel
theorem dX11_feed_12 : decode cX11_feed 12 = .ok (.lload_n 3, 1) := by decide +kernel
theorem dX11_feed_13 : decode cX11_feed 13 = .ok (.invokevirtual 81, 3) := by decide +kernel
theorem dX11_feed_16 : decode cX11_feed 16 = .ok (.aload_n 0, 1) := by decide +kernel
theorem dX11_feed_17 : decode cX11_feed 17 = .ok (.getfield 10, 3) := by decide +kernel
theorem dX11_feed_20 : decode cX11_feed 20 = .ok (.lload 5, 2) := by decide +kernel
theorem dX11_feed_22 : decode cX11_feed 22 = .ok (.invokevirtual 81, 3) := by decide +kernel
theorem dX11_feed_25 : decode cX11_feed 25 = .ok (.aload_n 0, 1) := by decide +kernel
theorem dX11_feed_26 : decode cX11_feed 26 = .ok (.getfield 10, 3) := by decide +kernel
theorem dX11_feed_29 : decode cX11_feed 29 = .ok (.getfield 85, 3) := by decide +kernel
theorem dX11_feed_32 : decode cX11_feed 32 = .ok (.ireturn, 1) := by decide +kernel
set_option maxHeartbeats 4000000 in
set_option maxRecDepth 100000 in
theorem ab_8 {γ : kΓ} {l : Launch} {p : Program} {e : Env} {s : State} {m : MethodId} {below : List Frame} {meth : Method} {c : Code} {A : Nat → Prop} (h : Nat) (hg : Nat) (t2 : Int32) (t3 : Int32) (t4 : Int32) (t5 : Int32) (t6 : Int64) (t7 : Nat) (v : Int64) (n : Nat) (f : Nat → Int32) (hn : n ≤ 1000) (F : Nat) (G : Nat → Int32) (hF : kad v 0 n = F) (hG : kfa v 0 n f = G) (hC : kC γ p s m [.ref h, .long v].toArray c cX8_addBytes 5 RX8 A) (hr : meth.sig.returnType = none) (hlocks : meth.locks = false) (H : Heap) (locs : List Loc) (hw : kW γ A [(h, .inr (8, [.ref hg, .int (nI n), .int t2, .int t3, .int t4, .int t5, .long t6, .ref t7])), (hg, .inl (γ.2.1 2, 1000, .inl f))] s H locs) (ls : Array Slot) (hl : lv_has ls 5 [(3, .int (-8)), (0, .ref h), (1, .long v)]) : W p l e ({ frames := 0, cells := 0, slots := 0, locals := 0 } : Room) s m [.ref h, .long v].toArray below meth c H locs 0 0 (MQ below (kQ γ A (fun r w1 => r = none ∧ w1 = [(h, .inr (8, [.ref hg, .int (nI F), .int t2, .int t3, .int t4, .int t5, .long t6, .ref t7])), (hg, .inl (γ.2.1 2, 1000, .inl G))])) [.ref h, .long v].toArray s 0 0 A) (F0 m 3 ls []) := by
  have hx := hC.1
  have hb := hC.2.1
  have hF9 : n = F := hF
  have hG9 : f = G := hG
  subst hF9 hG9
  refine lv_iload_n hx hb dX8_addBytes_3 rfl (lv_at hl 0 rfl) ?_
  refine lv_if_lt (tgt := 76) hx hb dX8_addBytes_4 (by decide) (fun _ => ?_) (fun h => absurd (by decide) h)
  exact k_vret hC hr hlocks hw [0, 1] rfl rfl ⟨rfl, rfl⟩ (by decide) (by decide) dX8_addBytes_76

set_option maxHeartbeats 4000000 in
set_option maxRecDepth 100000 in
theorem ab_7 {γ : kΓ} {l : Launch} {p : Program} {e : Env} {s : State} {m : MethodId} {below : List Frame} {meth : Method} {c : Code} {A : Nat → Prop} (h : Nat) (hg : Nat) (t2 : Int32) (t3 : Int32) (t4 : Int32) (t5 : Int32) (t6 : Int64) (t7 : Nat) (v : Int64) (n : Nat) (f : Nat → Int32) (hn : n ≤ 1000) (F : Nat) (G : Nat → Int32) (hF : kad v 1 n = F) (hG : kfa v 1 n f = G) (hC : kC γ p s m [.ref h, .long v].toArray c cX8_addBytes 5 RX8 A) (hr : meth.sig.returnType = none) (hlocks : meth.locks = false) (H : Heap) (locs : List Loc) (hw : kW γ A [(h, .inr (8, [.ref hg, .int (nI n), .int t2, .int t3, .int t4, .int t5, .long t6, .ref t7])), (hg, .inl (γ.2.1 2, 1000, .inl f))] s H locs) (ls : Array Slot) (hl : lv_has ls 5 [(3, .int 0), (0, .ref h), (1, .long v)]) : W p l e ({ frames := 0, cells := 0, slots := 0, locals := 0 } : Room) s m [.ref h, .long v].toArray below meth c H locs 0 0 (MQ below (kQ γ A (fun r w1 => r = none ∧ w1 = [(h, .inr (8, [.ref hg, .int (nI F), .int t2, .int t3, .int t4, .int t5, .long t6, .ref t7])), (hg, .inl (γ.2.1 2, 1000, .inl G))])) [.ref h, .long v].toArray s 0 0 A) (F0 m 3 ls []) := by
  have hx := hC.1
  have hb := hC.2.1
  refine lv_iload_n hx hb dX8_addBytes_3 rfl (lv_at hl 0 rfl) ?_
  refine lv_if_lt (tgt := 76) hx hb dX8_addBytes_4 (by decide) (fun h => absurd h (by decide)) (fun _ => ?_)
  refine lv_lload_n hx hb dX8_addBytes_7 rfl (lv_at hl 2 rfl) ?_
  refine lv_iload_n hx hb dX8_addBytes_8 rfl (lv_at hl 0 rfl) ?_
  refine lv_lushr hx hb dX8_addBytes_9 rfl ?_
  refine lv_topl (fun x_1 ex_1 => ?_)
  refine lv_l2i hx hb dX8_addBytes_10 rfl ?_
  refine lv_topi (fun x_2 ex_2 => ?_)
  refine lv_sipush (v := 255) hx hb dX8_addBytes_11 (by decide) ?_
  refine lv_iand hx hb dX8_addBytes_14 ?_
  refine lv_topi (fun x_3 ex_3 => ?_)
  refine lv_istore (lv' := [(4, .int x_3), (3, .int 0), (0, .ref h), (1, .long v)]) hx hb dX8_addBytes_15 hl (by decide) rfl (fun ls hl => ?_)
  have hk : x_3 = kby v 0 := by rw [ex_3, ex_2, ex_1]; rfl
  refine lv_iload hx hb dX8_addBytes_17 (lv_at hl 0 rfl) ?_
  refine lv_bipush (v := 10) hx hb dX8_addBytes_19 (by decide) ?_
  refine lv_icmp_eq (tgt := 38) hx hb dX8_addBytes_21 (by decide) (fun c21 => ?_) (fun c21 => ?_)
  · refine lv_aload_n hx hb dX8_addBytes_38 rfl (lv_at hl 2 rfl) ?_
    refine fg_RX8_24 hC hw 0 rfl rfl dX8_addBytes_39 ?_
    refine lv_sipush (v := 1000) hx hb dX8_addBytes_42 (by decide) ?_
    refine lv_icmp_ge (tgt := 70) hx hb dX8_addBytes_45 (by decide) (fun c45 => ?_) (fun c45 => ?_)
    · have hfull : ¬ n < 1000 := fun h9 => absurd c45 (nI_ge h9 (by decide))
      refine lv_iinc (v := (-8)) (lv' := [(3, .int (-8)), (4, .int x_3), (0, .ref h), (1, .long v)]) hx hb dX8_addBytes_70 hl (k := 1) rfl (by decide) (by decide) rfl (fun ls hl => ?_)
      refine lv_goto (tgt := 3) hx hb dX8_addBytes_73 (by decide) ?_
      have hst : kst n (kby v 0) = n := by rw [← hk]; exact (by first | exact kst_a c21 hlt | exact kst_b c28 c35 hlt | exact kst_full hfull | exact kst_lo c21 c28 | exact kst_hi c21 c35)
      have hup : kup f n (kby v 0) = f := by rw [← hk]; exact (by first | exact kup_full hfull | exact kup_lo c21 c28 | exact kup_hi c21 c35)
      exact ab_8 h hg t2 t3 t4 t5 t6 t7 v n f (by omega) F G (by have h9 : kad v 0 (kst n (kby v 0)) = F := hF; rw [hst] at h9; exact h9) (by have h9 : kfa v 0 (kst n (kby v 0)) (kup f n (kby v 0)) = G := hG; rw [hst, hup] at h9; exact h9) hC hr hlocks _ _ (kW.sub hw [0, 1] rfl rfl) _ (lv_sub hl [0, 2, 3] rfl)
    · have hlt : n < 1000 := by rcases Nat.lt_or_ge n 1000 with h9 | h9; exact h9; exact absurd (nI_le h9 (by omega)) c45
      refine lv_aload_n hx hb dX8_addBytes_48 rfl (lv_at hl 2 rfl) ?_
      refine fg_RX8_9 hC hw 0 rfl rfl dX8_addBytes_49 ?_
      refine lv_aload_n hx hb dX8_addBytes_52 rfl (lv_at hl 2 rfl) ?_
      refine fg_RX8_24 hC hw 0 rfl rfl dX8_addBytes_53 ?_
      refine lv_iload hx hb dX8_addBytes_56 (lv_at hl 0 rfl) ?_
      refine lv_i2b hx hb dX8_addBytes_58 rfl ?_
      refine lv_topi (fun x_4 ex_4 => ?_)
      refine k_bast hC hw 1 rfl (vp_in_nI hlt (by decide)) dX8_addBytes_59 (fun H locs hw => ?_)
      obtain ⟨f_5, ef_5⟩ : ∃ g, g = upd f ((nI n) : Int32).toNatClampNeg (vp_nar .byte x_4) := ⟨_, rfl⟩
      have hw : kW γ A [(h, .inr (8, [.ref hg, .int (nI n), .int t2, .int t3, .int t4, .int t5, .long t6, .ref t7])), (hg, .inl (γ.2.1 2, 1000, .inl f_5))] s H locs := by rw [ef_5]; exact hw
      refine lv_aload_n hx hb dX8_addBytes_60 rfl (lv_at hl 2 rfl) ?_
      refine lv_dup hx hb dX8_addBytes_61 rfl ?_
      refine fg_RX8_24 hC hw 0 rfl rfl dX8_addBytes_62 ?_
      refine lv_iconst (v := 1) hx hb dX8_addBytes_65 (by decide) ?_
      refine lv_iadd hx hb dX8_addBytes_66 ?_
      refine lv_topi (fun x_6 ex_6 => ?_)
      obtain rfl : x_6 = (nI (n + 1)) := ex_6.trans (nI_1 n)
      refine fs_RX8_24 hC hw 0 rfl rfl rfl (Nat.le_of_ble_eq_true rfl) dX8_addBytes_67 (fun H locs hw => ?_)
      have hw : kW γ A [(h, .inr (8, [.ref hg, .int (nI (n + 1)), .int t2, .int t3, .int t4, .int t5, .long t6, .ref t7])), (hg, .inl (γ.2.1 2, 1000, .inl f_5))] s H locs := hw
      refine lv_iinc (v := (-8)) (lv' := [(3, .int (-8)), (4, .int x_3), (0, .ref h), (1, .long v)]) hx hb dX8_addBytes_70 hl (k := 1) rfl (by decide) (by decide) rfl (fun ls hl => ?_)
      refine lv_goto (tgt := 3) hx hb dX8_addBytes_73 (by decide) ?_
      have hst : kst n (kby v 0) = (n + 1) := by rw [← hk]; exact (by first | exact kst_a c21 hlt | exact kst_b c28 c35 hlt | exact kst_full hfull | exact kst_lo c21 c28 | exact kst_hi c21 c35)
      have hup : kup f n (kby v 0) = f_5 := by rw [← hk, ef_5, nI_clamp (by omega), kok_byte (b := x_3) (by first | exact kok_a c21 | exact kok_b c28 c35) ex_4]; exact kup_y (by first | exact kok_a c21 | exact kok_b c28 c35) hlt
      exact ab_8 h hg t2 t3 t4 t5 t6 t7 v (n + 1) f_5 (by omega) F G (by have h9 : kad v 0 (kst n (kby v 0)) = F := hF; rw [hst] at h9; exact h9) (by have h9 : kfa v 0 (kst n (kby v 0)) (kup f n (kby v 0)) = G := hG; rw [hst, hup] at h9; exact h9) hC hr hlocks _ _ (kW.sub hw [0, 1] rfl rfl) _ (lv_sub hl [0, 2, 3] rfl)
  · refine lv_iload hx hb dX8_addBytes_24 (lv_at hl 0 rfl) ?_
    refine lv_bipush (v := 32) hx hb dX8_addBytes_26 (by decide) ?_
    refine lv_icmp_lt (tgt := 70) hx hb dX8_addBytes_28 (by decide) (fun c28 => ?_) (fun c28 => ?_)
    · refine lv_iinc (v := (-8)) (lv' := [(3, .int (-8)), (4, .int x_3), (0, .ref h), (1, .long v)]) hx hb dX8_addBytes_70 hl (k := 1) rfl (by decide) (by decide) rfl (fun ls hl => ?_)
      refine lv_goto (tgt := 3) hx hb dX8_addBytes_73 (by decide) ?_
      have hst : kst n (kby v 0) = n := by rw [← hk]; exact (by first | exact kst_a c21 hlt | exact kst_b c28 c35 hlt | exact kst_full hfull | exact kst_lo c21 c28 | exact kst_hi c21 c35)
      have hup : kup f n (kby v 0) = f := by rw [← hk]; exact (by first | exact kup_full hfull | exact kup_lo c21 c28 | exact kup_hi c21 c35)
      exact ab_8 h hg t2 t3 t4 t5 t6 t7 v n f (by omega) F G (by have h9 : kad v 0 (kst n (kby v 0)) = F := hF; rw [hst] at h9; exact h9) (by have h9 : kfa v 0 (kst n (kby v 0)) (kup f n (kby v 0)) = G := hG; rw [hst, hup] at h9; exact h9) hC hr hlocks _ _ (kW.sub hw [0, 1] rfl rfl) _ (lv_sub hl [0, 2, 3] rfl)
    · refine lv_iload hx hb dX8_addBytes_31 (lv_at hl 0 rfl) ?_
      refine lv_bipush (v := 126) hx hb dX8_addBytes_33 (by decide) ?_
      refine lv_icmp_gt (tgt := 70) hx hb dX8_addBytes_35 (by decide) (fun c35 => ?_) (fun c35 => ?_)
      · refine lv_iinc (v := (-8)) (lv' := [(3, .int (-8)), (4, .int x_3), (0, .ref h), (1, .long v)]) hx hb dX8_addBytes_70 hl (k := 1) rfl (by decide) (by decide) rfl (fun ls hl => ?_)
        refine lv_goto (tgt := 3) hx hb dX8_addBytes_73 (by decide) ?_
        have hst : kst n (kby v 0) = n := by rw [← hk]; exact (by first | exact kst_a c21 hlt | exact kst_b c28 c35 hlt | exact kst_full hfull | exact kst_lo c21 c28 | exact kst_hi c21 c35)
        have hup : kup f n (kby v 0) = f := by rw [← hk]; exact (by first | exact kup_full hfull | exact kup_lo c21 c28 | exact kup_hi c21 c35)
        exact ab_8 h hg t2 t3 t4 t5 t6 t7 v n f (by omega) F G (by have h9 : kad v 0 (kst n (kby v 0)) = F := hF; rw [hst] at h9; exact h9) (by have h9 : kfa v 0 (kst n (kby v 0)) (kup f n (kby v 0)) = G := hG; rw [hst, hup] at h9; exact h9) hC hr hlocks _ _ (kW.sub hw [0, 1] rfl rfl) _ (lv_sub hl [0, 2, 3] rfl)
      · refine lv_aload_n hx hb dX8_addBytes_38 rfl (lv_at hl 2 rfl) ?_
        refine fg_RX8_24 hC hw 0 rfl rfl dX8_addBytes_39 ?_
        refine lv_sipush (v := 1000) hx hb dX8_addBytes_42 (by decide) ?_
        refine lv_icmp_ge (tgt := 70) hx hb dX8_addBytes_45 (by decide) (fun c45 => ?_) (fun c45 => ?_)
        · have hfull : ¬ n < 1000 := fun h9 => absurd c45 (nI_ge h9 (by decide))
          refine lv_iinc (v := (-8)) (lv' := [(3, .int (-8)), (4, .int x_3), (0, .ref h), (1, .long v)]) hx hb dX8_addBytes_70 hl (k := 1) rfl (by decide) (by decide) rfl (fun ls hl => ?_)
          refine lv_goto (tgt := 3) hx hb dX8_addBytes_73 (by decide) ?_
          have hst : kst n (kby v 0) = n := by rw [← hk]; exact (by first | exact kst_a c21 hlt | exact kst_b c28 c35 hlt | exact kst_full hfull | exact kst_lo c21 c28 | exact kst_hi c21 c35)
          have hup : kup f n (kby v 0) = f := by rw [← hk]; exact (by first | exact kup_full hfull | exact kup_lo c21 c28 | exact kup_hi c21 c35)
          exact ab_8 h hg t2 t3 t4 t5 t6 t7 v n f (by omega) F G (by have h9 : kad v 0 (kst n (kby v 0)) = F := hF; rw [hst] at h9; exact h9) (by have h9 : kfa v 0 (kst n (kby v 0)) (kup f n (kby v 0)) = G := hG; rw [hst, hup] at h9; exact h9) hC hr hlocks _ _ (kW.sub hw [0, 1] rfl rfl) _ (lv_sub hl [0, 2, 3] rfl)
        · have hlt : n < 1000 := by rcases Nat.lt_or_ge n 1000 with h9 | h9; exact h9; exact absurd (nI_le h9 (by omega)) c45
          refine lv_aload_n hx hb dX8_addBytes_48 rfl (lv_at hl 2 rfl) ?_
          refine fg_RX8_9 hC hw 0 rfl rfl dX8_addBytes_49 ?_
          refine lv_aload_n hx hb dX8_addBytes_52 rfl (lv_at hl 2 rfl) ?_
          refine fg_RX8_24 hC hw 0 rfl rfl dX8_addBytes_53 ?_
          refine lv_iload hx hb dX8_addBytes_56 (lv_at hl 0 rfl) ?_
          refine lv_i2b hx hb dX8_addBytes_58 rfl ?_
          refine lv_topi (fun x_7 ex_7 => ?_)
          refine k_bast hC hw 1 rfl (vp_in_nI hlt (by decide)) dX8_addBytes_59 (fun H locs hw => ?_)
          obtain ⟨f_8, ef_8⟩ : ∃ g, g = upd f ((nI n) : Int32).toNatClampNeg (vp_nar .byte x_7) := ⟨_, rfl⟩
          have hw : kW γ A [(h, .inr (8, [.ref hg, .int (nI n), .int t2, .int t3, .int t4, .int t5, .long t6, .ref t7])), (hg, .inl (γ.2.1 2, 1000, .inl f_8))] s H locs := by rw [ef_8]; exact hw
          refine lv_aload_n hx hb dX8_addBytes_60 rfl (lv_at hl 2 rfl) ?_
          refine lv_dup hx hb dX8_addBytes_61 rfl ?_
          refine fg_RX8_24 hC hw 0 rfl rfl dX8_addBytes_62 ?_
          refine lv_iconst (v := 1) hx hb dX8_addBytes_65 (by decide) ?_
          refine lv_iadd hx hb dX8_addBytes_66 ?_
          refine lv_topi (fun x_9 ex_9 => ?_)
          obtain rfl : x_9 = (nI (n + 1)) := ex_9.trans (nI_1 n)
          refine fs_RX8_24 hC hw 0 rfl rfl rfl (Nat.le_of_ble_eq_true rfl) dX8_addBytes_67 (fun H locs hw => ?_)
          have hw : kW γ A [(h, .inr (8, [.ref hg, .int (nI (n + 1)), .int t2, .int t3, .int t4, .int t5, .long t6, .ref t7])), (hg, .inl (γ.2.1 2, 1000, .inl f_8))] s H locs := hw
          refine lv_iinc (v := (-8)) (lv' := [(3, .int (-8)), (4, .int x_3), (0, .ref h), (1, .long v)]) hx hb dX8_addBytes_70 hl (k := 1) rfl (by decide) (by decide) rfl (fun ls hl => ?_)
          refine lv_goto (tgt := 3) hx hb dX8_addBytes_73 (by decide) ?_
          have hst : kst n (kby v 0) = (n + 1) := by rw [← hk]; exact (by first | exact kst_a c21 hlt | exact kst_b c28 c35 hlt | exact kst_full hfull | exact kst_lo c21 c28 | exact kst_hi c21 c35)
          have hup : kup f n (kby v 0) = f_8 := by rw [← hk, ef_8, nI_clamp (by omega), kok_byte (b := x_3) (by first | exact kok_a c21 | exact kok_b c28 c35) ex_7]; exact kup_y (by first | exact kok_a c21 | exact kok_b c28 c35) hlt
          exact ab_8 h hg t2 t3 t4 t5 t6 t7 v (n + 1) f_8 (by omega) F G (by have h9 : kad v 0 (kst n (kby v 0)) = F := hF; rw [hst] at h9; exact h9) (by have h9 : kfa v 0 (kst n (kby v 0)) (kup f n (kby v 0)) = G := hG; rw [hst, hup] at h9; exact h9) hC hr hlocks _ _ (kW.sub hw [0, 1] rfl rfl) _ (lv_sub hl [0, 2, 3] rfl)

set_option maxHeartbeats 4000000 in
set_option maxRecDepth 100000 in
theorem ab_6 {γ : kΓ} {l : Launch} {p : Program} {e : Env} {s : State} {m : MethodId} {below : List Frame} {meth : Method} {c : Code} {A : Nat → Prop} (h : Nat) (hg : Nat) (t2 : Int32) (t3 : Int32) (t4 : Int32) (t5 : Int32) (t6 : Int64) (t7 : Nat) (v : Int64) (n : Nat) (f : Nat → Int32) (hn : n ≤ 1000) (F : Nat) (G : Nat → Int32) (hF : kad v 2 n = F) (hG : kfa v 2 n f = G) (hC : kC γ p s m [.ref h, .long v].toArray c cX8_addBytes 5 RX8 A) (hr : meth.sig.returnType = none) (hlocks : meth.locks = false) (H : Heap) (locs : List Loc) (hw : kW γ A [(h, .inr (8, [.ref hg, .int (nI n), .int t2, .int t3, .int t4, .int t5, .long t6, .ref t7])), (hg, .inl (γ.2.1 2, 1000, .inl f))] s H locs) (ls : Array Slot) (hl : lv_has ls 5 [(3, .int 8), (0, .ref h), (1, .long v)]) : W p l e ({ frames := 0, cells := 0, slots := 0, locals := 0 } : Room) s m [.ref h, .long v].toArray below meth c H locs 0 0 (MQ below (kQ γ A (fun r w1 => r = none ∧ w1 = [(h, .inr (8, [.ref hg, .int (nI F), .int t2, .int t3, .int t4, .int t5, .long t6, .ref t7])), (hg, .inl (γ.2.1 2, 1000, .inl G))])) [.ref h, .long v].toArray s 0 0 A) (F0 m 3 ls []) := by
  have hx := hC.1
  have hb := hC.2.1
  refine lv_iload_n hx hb dX8_addBytes_3 rfl (lv_at hl 0 rfl) ?_
  refine lv_if_lt (tgt := 76) hx hb dX8_addBytes_4 (by decide) (fun h => absurd h (by decide)) (fun _ => ?_)
  refine lv_lload_n hx hb dX8_addBytes_7 rfl (lv_at hl 2 rfl) ?_
  refine lv_iload_n hx hb dX8_addBytes_8 rfl (lv_at hl 0 rfl) ?_
  refine lv_lushr hx hb dX8_addBytes_9 rfl ?_
  refine lv_topl (fun x_10 ex_10 => ?_)
  refine lv_l2i hx hb dX8_addBytes_10 rfl ?_
  refine lv_topi (fun x_11 ex_11 => ?_)
  refine lv_sipush (v := 255) hx hb dX8_addBytes_11 (by decide) ?_
  refine lv_iand hx hb dX8_addBytes_14 ?_
  refine lv_topi (fun x_12 ex_12 => ?_)
  refine lv_istore (lv' := [(4, .int x_12), (3, .int 8), (0, .ref h), (1, .long v)]) hx hb dX8_addBytes_15 hl (by decide) rfl (fun ls hl => ?_)
  have hk : x_12 = kby v 8 := by rw [ex_12, ex_11, ex_10]; rfl
  refine lv_iload hx hb dX8_addBytes_17 (lv_at hl 0 rfl) ?_
  refine lv_bipush (v := 10) hx hb dX8_addBytes_19 (by decide) ?_
  refine lv_icmp_eq (tgt := 38) hx hb dX8_addBytes_21 (by decide) (fun c21 => ?_) (fun c21 => ?_)
  · refine lv_aload_n hx hb dX8_addBytes_38 rfl (lv_at hl 2 rfl) ?_
    refine fg_RX8_24 hC hw 0 rfl rfl dX8_addBytes_39 ?_
    refine lv_sipush (v := 1000) hx hb dX8_addBytes_42 (by decide) ?_
    refine lv_icmp_ge (tgt := 70) hx hb dX8_addBytes_45 (by decide) (fun c45 => ?_) (fun c45 => ?_)
    · have hfull : ¬ n < 1000 := fun h9 => absurd c45 (nI_ge h9 (by decide))
      refine lv_iinc (v := 0) (lv' := [(3, .int 0), (4, .int x_12), (0, .ref h), (1, .long v)]) hx hb dX8_addBytes_70 hl (k := 1) rfl (by decide) (by decide) rfl (fun ls hl => ?_)
      refine lv_goto (tgt := 3) hx hb dX8_addBytes_73 (by decide) ?_
      have hst : kst n (kby v 8) = n := by rw [← hk]; exact (by first | exact kst_a c21 hlt | exact kst_b c28 c35 hlt | exact kst_full hfull | exact kst_lo c21 c28 | exact kst_hi c21 c35)
      have hup : kup f n (kby v 8) = f := by rw [← hk]; exact (by first | exact kup_full hfull | exact kup_lo c21 c28 | exact kup_hi c21 c35)
      exact ab_7 h hg t2 t3 t4 t5 t6 t7 v n f (by omega) F G (by have h9 : kad v 1 (kst n (kby v 8)) = F := hF; rw [hst] at h9; exact h9) (by have h9 : kfa v 1 (kst n (kby v 8)) (kup f n (kby v 8)) = G := hG; rw [hst, hup] at h9; exact h9) hC hr hlocks _ _ (kW.sub hw [0, 1] rfl rfl) _ (lv_sub hl [0, 2, 3] rfl)
    · have hlt : n < 1000 := by rcases Nat.lt_or_ge n 1000 with h9 | h9; exact h9; exact absurd (nI_le h9 (by omega)) c45
      refine lv_aload_n hx hb dX8_addBytes_48 rfl (lv_at hl 2 rfl) ?_
      refine fg_RX8_9 hC hw 0 rfl rfl dX8_addBytes_49 ?_
      refine lv_aload_n hx hb dX8_addBytes_52 rfl (lv_at hl 2 rfl) ?_
      refine fg_RX8_24 hC hw 0 rfl rfl dX8_addBytes_53 ?_
      refine lv_iload hx hb dX8_addBytes_56 (lv_at hl 0 rfl) ?_
      refine lv_i2b hx hb dX8_addBytes_58 rfl ?_
      refine lv_topi (fun x_13 ex_13 => ?_)
      refine k_bast hC hw 1 rfl (vp_in_nI hlt (by decide)) dX8_addBytes_59 (fun H locs hw => ?_)
      obtain ⟨f_14, ef_14⟩ : ∃ g, g = upd f ((nI n) : Int32).toNatClampNeg (vp_nar .byte x_13) := ⟨_, rfl⟩
      have hw : kW γ A [(h, .inr (8, [.ref hg, .int (nI n), .int t2, .int t3, .int t4, .int t5, .long t6, .ref t7])), (hg, .inl (γ.2.1 2, 1000, .inl f_14))] s H locs := by rw [ef_14]; exact hw
      refine lv_aload_n hx hb dX8_addBytes_60 rfl (lv_at hl 2 rfl) ?_
      refine lv_dup hx hb dX8_addBytes_61 rfl ?_
      refine fg_RX8_24 hC hw 0 rfl rfl dX8_addBytes_62 ?_
      refine lv_iconst (v := 1) hx hb dX8_addBytes_65 (by decide) ?_
      refine lv_iadd hx hb dX8_addBytes_66 ?_
      refine lv_topi (fun x_15 ex_15 => ?_)
      obtain rfl : x_15 = (nI (n + 1)) := ex_15.trans (nI_1 n)
      refine fs_RX8_24 hC hw 0 rfl rfl rfl (Nat.le_of_ble_eq_true rfl) dX8_addBytes_67 (fun H locs hw => ?_)
      have hw : kW γ A [(h, .inr (8, [.ref hg, .int (nI (n + 1)), .int t2, .int t3, .int t4, .int t5, .long t6, .ref t7])), (hg, .inl (γ.2.1 2, 1000, .inl f_14))] s H locs := hw
      refine lv_iinc (v := 0) (lv' := [(3, .int 0), (4, .int x_12), (0, .ref h), (1, .long v)]) hx hb dX8_addBytes_70 hl (k := 1) rfl (by decide) (by decide) rfl (fun ls hl => ?_)
      refine lv_goto (tgt := 3) hx hb dX8_addBytes_73 (by decide) ?_
      have hst : kst n (kby v 8) = (n + 1) := by rw [← hk]; exact (by first | exact kst_a c21 hlt | exact kst_b c28 c35 hlt | exact kst_full hfull | exact kst_lo c21 c28 | exact kst_hi c21 c35)
      have hup : kup f n (kby v 8) = f_14 := by rw [← hk, ef_14, nI_clamp (by omega), kok_byte (b := x_12) (by first | exact kok_a c21 | exact kok_b c28 c35) ex_13]; exact kup_y (by first | exact kok_a c21 | exact kok_b c28 c35) hlt
      exact ab_7 h hg t2 t3 t4 t5 t6 t7 v (n + 1) f_14 (by omega) F G (by have h9 : kad v 1 (kst n (kby v 8)) = F := hF; rw [hst] at h9; exact h9) (by have h9 : kfa v 1 (kst n (kby v 8)) (kup f n (kby v 8)) = G := hG; rw [hst, hup] at h9; exact h9) hC hr hlocks _ _ (kW.sub hw [0, 1] rfl rfl) _ (lv_sub hl [0, 2, 3] rfl)
  · refine lv_iload hx hb dX8_addBytes_24 (lv_at hl 0 rfl) ?_
    refine lv_bipush (v := 32) hx hb dX8_addBytes_26 (by decide) ?_
    refine lv_icmp_lt (tgt := 70) hx hb dX8_addBytes_28 (by decide) (fun c28 => ?_) (fun c28 => ?_)
    · refine lv_iinc (v := 0) (lv' := [(3, .int 0), (4, .int x_12), (0, .ref h), (1, .long v)]) hx hb dX8_addBytes_70 hl (k := 1) rfl (by decide) (by decide) rfl (fun ls hl => ?_)
      refine lv_goto (tgt := 3) hx hb dX8_addBytes_73 (by decide) ?_
      have hst : kst n (kby v 8) = n := by rw [← hk]; exact (by first | exact kst_a c21 hlt | exact kst_b c28 c35 hlt | exact kst_full hfull | exact kst_lo c21 c28 | exact kst_hi c21 c35)
      have hup : kup f n (kby v 8) = f := by rw [← hk]; exact (by first | exact kup_full hfull | exact kup_lo c21 c28 | exact kup_hi c21 c35)
      exact ab_7 h hg t2 t3 t4 t5 t6 t7 v n f (by omega) F G (by have h9 : kad v 1 (kst n (kby v 8)) = F := hF; rw [hst] at h9; exact h9) (by have h9 : kfa v 1 (kst n (kby v 8)) (kup f n (kby v 8)) = G := hG; rw [hst, hup] at h9; exact h9) hC hr hlocks _ _ (kW.sub hw [0, 1] rfl rfl) _ (lv_sub hl [0, 2, 3] rfl)
    · refine lv_iload hx hb dX8_addBytes_31 (lv_at hl 0 rfl) ?_
      refine lv_bipush (v := 126) hx hb dX8_addBytes_33 (by decide) ?_
      refine lv_icmp_gt (tgt := 70) hx hb dX8_addBytes_35 (by decide) (fun c35 => ?_) (fun c35 => ?_)
      · refine lv_iinc (v := 0) (lv' := [(3, .int 0), (4, .int x_12), (0, .ref h), (1, .long v)]) hx hb dX8_addBytes_70 hl (k := 1) rfl (by decide) (by decide) rfl (fun ls hl => ?_)
        refine lv_goto (tgt := 3) hx hb dX8_addBytes_73 (by decide) ?_
        have hst : kst n (kby v 8) = n := by rw [← hk]; exact (by first | exact kst_a c21 hlt | exact kst_b c28 c35 hlt | exact kst_full hfull | exact kst_lo c21 c28 | exact kst_hi c21 c35)
        have hup : kup f n (kby v 8) = f := by rw [← hk]; exact (by first | exact kup_full hfull | exact kup_lo c21 c28 | exact kup_hi c21 c35)
        exact ab_7 h hg t2 t3 t4 t5 t6 t7 v n f (by omega) F G (by have h9 : kad v 1 (kst n (kby v 8)) = F := hF; rw [hst] at h9; exact h9) (by have h9 : kfa v 1 (kst n (kby v 8)) (kup f n (kby v 8)) = G := hG; rw [hst, hup] at h9; exact h9) hC hr hlocks _ _ (kW.sub hw [0, 1] rfl rfl) _ (lv_sub hl [0, 2, 3] rfl)
      · refine lv_aload_n hx hb dX8_addBytes_38 rfl (lv_at hl 2 rfl) ?_
        refine fg_RX8_24 hC hw 0 rfl rfl dX8_addBytes_39 ?_
        refine lv_sipush (v := 1000) hx hb dX8_addBytes_42 (by decide) ?_
        refine lv_icmp_ge (tgt := 70) hx hb dX8_addBytes_45 (by decide) (fun c45 => ?_) (fun c45 => ?_)
        · have hfull : ¬ n < 1000 := fun h9 => absurd c45 (nI_ge h9 (by decide))
          refine lv_iinc (v := 0) (lv' := [(3, .int 0), (4, .int x_12), (0, .ref h), (1, .long v)]) hx hb dX8_addBytes_70 hl (k := 1) rfl (by decide) (by decide) rfl (fun ls hl => ?_)
          refine lv_goto (tgt := 3) hx hb dX8_addBytes_73 (by decide) ?_
          have hst : kst n (kby v 8) = n := by rw [← hk]; exact (by first | exact kst_a c21 hlt | exact kst_b c28 c35 hlt | exact kst_full hfull | exact kst_lo c21 c28 | exact kst_hi c21 c35)
          have hup : kup f n (kby v 8) = f := by rw [← hk]; exact (by first | exact kup_full hfull | exact kup_lo c21 c28 | exact kup_hi c21 c35)
          exact ab_7 h hg t2 t3 t4 t5 t6 t7 v n f (by omega) F G (by have h9 : kad v 1 (kst n (kby v 8)) = F := hF; rw [hst] at h9; exact h9) (by have h9 : kfa v 1 (kst n (kby v 8)) (kup f n (kby v 8)) = G := hG; rw [hst, hup] at h9; exact h9) hC hr hlocks _ _ (kW.sub hw [0, 1] rfl rfl) _ (lv_sub hl [0, 2, 3] rfl)
        · have hlt : n < 1000 := by rcases Nat.lt_or_ge n 1000 with h9 | h9; exact h9; exact absurd (nI_le h9 (by omega)) c45
          refine lv_aload_n hx hb dX8_addBytes_48 rfl (lv_at hl 2 rfl) ?_
          refine fg_RX8_9 hC hw 0 rfl rfl dX8_addBytes_49 ?_
          refine lv_aload_n hx hb dX8_addBytes_52 rfl (lv_at hl 2 rfl) ?_
          refine fg_RX8_24 hC hw 0 rfl rfl dX8_addBytes_53 ?_
          refine lv_iload hx hb dX8_addBytes_56 (lv_at hl 0 rfl) ?_
          refine lv_i2b hx hb dX8_addBytes_58 rfl ?_
          refine lv_topi (fun x_16 ex_16 => ?_)
          refine k_bast hC hw 1 rfl (vp_in_nI hlt (by decide)) dX8_addBytes_59 (fun H locs hw => ?_)
          obtain ⟨f_17, ef_17⟩ : ∃ g, g = upd f ((nI n) : Int32).toNatClampNeg (vp_nar .byte x_16) := ⟨_, rfl⟩
          have hw : kW γ A [(h, .inr (8, [.ref hg, .int (nI n), .int t2, .int t3, .int t4, .int t5, .long t6, .ref t7])), (hg, .inl (γ.2.1 2, 1000, .inl f_17))] s H locs := by rw [ef_17]; exact hw
          refine lv_aload_n hx hb dX8_addBytes_60 rfl (lv_at hl 2 rfl) ?_
          refine lv_dup hx hb dX8_addBytes_61 rfl ?_
          refine fg_RX8_24 hC hw 0 rfl rfl dX8_addBytes_62 ?_
          refine lv_iconst (v := 1) hx hb dX8_addBytes_65 (by decide) ?_
          refine lv_iadd hx hb dX8_addBytes_66 ?_
          refine lv_topi (fun x_18 ex_18 => ?_)
          obtain rfl : x_18 = (nI (n + 1)) := ex_18.trans (nI_1 n)
          refine fs_RX8_24 hC hw 0 rfl rfl rfl (Nat.le_of_ble_eq_true rfl) dX8_addBytes_67 (fun H locs hw => ?_)
          have hw : kW γ A [(h, .inr (8, [.ref hg, .int (nI (n + 1)), .int t2, .int t3, .int t4, .int t5, .long t6, .ref t7])), (hg, .inl (γ.2.1 2, 1000, .inl f_17))] s H locs := hw
          refine lv_iinc (v := 0) (lv' := [(3, .int 0), (4, .int x_12), (0, .ref h), (1, .long v)]) hx hb dX8_addBytes_70 hl (k := 1) rfl (by decide) (by decide) rfl (fun ls hl => ?_)
          refine lv_goto (tgt := 3) hx hb dX8_addBytes_73 (by decide) ?_
          have hst : kst n (kby v 8) = (n + 1) := by rw [← hk]; exact (by first | exact kst_a c21 hlt | exact kst_b c28 c35 hlt | exact kst_full hfull | exact kst_lo c21 c28 | exact kst_hi c21 c35)
          have hup : kup f n (kby v 8) = f_17 := by rw [← hk, ef_17, nI_clamp (by omega), kok_byte (b := x_12) (by first | exact kok_a c21 | exact kok_b c28 c35) ex_16]; exact kup_y (by first | exact kok_a c21 | exact kok_b c28 c35) hlt
          exact ab_7 h hg t2 t3 t4 t5 t6 t7 v (n + 1) f_17 (by omega) F G (by have h9 : kad v 1 (kst n (kby v 8)) = F := hF; rw [hst] at h9; exact h9) (by have h9 : kfa v 1 (kst n (kby v 8)) (kup f n (kby v 8)) = G := hG; rw [hst, hup] at h9; exact h9) hC hr hlocks _ _ (kW.sub hw [0, 1] rfl rfl) _ (lv_sub hl [0, 2, 3] rfl)

set_option maxHeartbeats 4000000 in
set_option maxRecDepth 100000 in
theorem ab_5 {γ : kΓ} {l : Launch} {p : Program} {e : Env} {s : State} {m : MethodId} {below : List Frame} {meth : Method} {c : Code} {A : Nat → Prop} (h : Nat) (hg : Nat) (t2 : Int32) (t3 : Int32) (t4 : Int32) (t5 : Int32) (t6 : Int64) (t7 : Nat) (v : Int64) (n : Nat) (f : Nat → Int32) (hn : n ≤ 1000) (F : Nat) (G : Nat → Int32) (hF : kad v 3 n = F) (hG : kfa v 3 n f = G) (hC : kC γ p s m [.ref h, .long v].toArray c cX8_addBytes 5 RX8 A) (hr : meth.sig.returnType = none) (hlocks : meth.locks = false) (H : Heap) (locs : List Loc) (hw : kW γ A [(h, .inr (8, [.ref hg, .int (nI n), .int t2, .int t3, .int t4, .int t5, .long t6, .ref t7])), (hg, .inl (γ.2.1 2, 1000, .inl f))] s H locs) (ls : Array Slot) (hl : lv_has ls 5 [(3, .int 16), (0, .ref h), (1, .long v)]) : W p l e ({ frames := 0, cells := 0, slots := 0, locals := 0 } : Room) s m [.ref h, .long v].toArray below meth c H locs 0 0 (MQ below (kQ γ A (fun r w1 => r = none ∧ w1 = [(h, .inr (8, [.ref hg, .int (nI F), .int t2, .int t3, .int t4, .int t5, .long t6, .ref t7])), (hg, .inl (γ.2.1 2, 1000, .inl G))])) [.ref h, .long v].toArray s 0 0 A) (F0 m 3 ls []) := by
  have hx := hC.1
  have hb := hC.2.1
  refine lv_iload_n hx hb dX8_addBytes_3 rfl (lv_at hl 0 rfl) ?_
  refine lv_if_lt (tgt := 76) hx hb dX8_addBytes_4 (by decide) (fun h => absurd h (by decide)) (fun _ => ?_)
  refine lv_lload_n hx hb dX8_addBytes_7 rfl (lv_at hl 2 rfl) ?_
  refine lv_iload_n hx hb dX8_addBytes_8 rfl (lv_at hl 0 rfl) ?_
  refine lv_lushr hx hb dX8_addBytes_9 rfl ?_
  refine lv_topl (fun x_19 ex_19 => ?_)
  refine lv_l2i hx hb dX8_addBytes_10 rfl ?_
  refine lv_topi (fun x_20 ex_20 => ?_)
  refine lv_sipush (v := 255) hx hb dX8_addBytes_11 (by decide) ?_
  refine lv_iand hx hb dX8_addBytes_14 ?_
  refine lv_topi (fun x_21 ex_21 => ?_)
  refine lv_istore (lv' := [(4, .int x_21), (3, .int 16), (0, .ref h), (1, .long v)]) hx hb dX8_addBytes_15 hl (by decide) rfl (fun ls hl => ?_)
  have hk : x_21 = kby v 16 := by rw [ex_21, ex_20, ex_19]; rfl
  refine lv_iload hx hb dX8_addBytes_17 (lv_at hl 0 rfl) ?_
  refine lv_bipush (v := 10) hx hb dX8_addBytes_19 (by decide) ?_
  refine lv_icmp_eq (tgt := 38) hx hb dX8_addBytes_21 (by decide) (fun c21 => ?_) (fun c21 => ?_)
  · refine lv_aload_n hx hb dX8_addBytes_38 rfl (lv_at hl 2 rfl) ?_
    refine fg_RX8_24 hC hw 0 rfl rfl dX8_addBytes_39 ?_
    refine lv_sipush (v := 1000) hx hb dX8_addBytes_42 (by decide) ?_
    refine lv_icmp_ge (tgt := 70) hx hb dX8_addBytes_45 (by decide) (fun c45 => ?_) (fun c45 => ?_)
    · have hfull : ¬ n < 1000 := fun h9 => absurd c45 (nI_ge h9 (by decide))
      refine lv_iinc (v := 8) (lv' := [(3, .int 8), (4, .int x_21), (0, .ref h), (1, .long v)]) hx hb dX8_addBytes_70 hl (k := 1) rfl (by decide) (by decide) rfl (fun ls hl => ?_)
      refine lv_goto (tgt := 3) hx hb dX8_addBytes_73 (by decide) ?_
      have hst : kst n (kby v 16) = n := by rw [← hk]; exact (by first | exact kst_a c21 hlt | exact kst_b c28 c35 hlt | exact kst_full hfull | exact kst_lo c21 c28 | exact kst_hi c21 c35)
      have hup : kup f n (kby v 16) = f := by rw [← hk]; exact (by first | exact kup_full hfull | exact kup_lo c21 c28 | exact kup_hi c21 c35)
      exact ab_6 h hg t2 t3 t4 t5 t6 t7 v n f (by omega) F G (by have h9 : kad v 2 (kst n (kby v 16)) = F := hF; rw [hst] at h9; exact h9) (by have h9 : kfa v 2 (kst n (kby v 16)) (kup f n (kby v 16)) = G := hG; rw [hst, hup] at h9; exact h9) hC hr hlocks _ _ (kW.sub hw [0, 1] rfl rfl) _ (lv_sub hl [0, 2, 3] rfl)
    · have hlt : n < 1000 := by rcases Nat.lt_or_ge n 1000 with h9 | h9; exact h9; exact absurd (nI_le h9 (by omega)) c45
      refine lv_aload_n hx hb dX8_addBytes_48 rfl (lv_at hl 2 rfl) ?_
      refine fg_RX8_9 hC hw 0 rfl rfl dX8_addBytes_49 ?_
      refine lv_aload_n hx hb dX8_addBytes_52 rfl (lv_at hl 2 rfl) ?_
      refine fg_RX8_24 hC hw 0 rfl rfl dX8_addBytes_53 ?_
      refine lv_iload hx hb dX8_addBytes_56 (lv_at hl 0 rfl) ?_
      refine lv_i2b hx hb dX8_addBytes_58 rfl ?_
      refine lv_topi (fun x_22 ex_22 => ?_)
      refine k_bast hC hw 1 rfl (vp_in_nI hlt (by decide)) dX8_addBytes_59 (fun H locs hw => ?_)
      obtain ⟨f_23, ef_23⟩ : ∃ g, g = upd f ((nI n) : Int32).toNatClampNeg (vp_nar .byte x_22) := ⟨_, rfl⟩
      have hw : kW γ A [(h, .inr (8, [.ref hg, .int (nI n), .int t2, .int t3, .int t4, .int t5, .long t6, .ref t7])), (hg, .inl (γ.2.1 2, 1000, .inl f_23))] s H locs := by rw [ef_23]; exact hw
      refine lv_aload_n hx hb dX8_addBytes_60 rfl (lv_at hl 2 rfl) ?_
      refine lv_dup hx hb dX8_addBytes_61 rfl ?_
      refine fg_RX8_24 hC hw 0 rfl rfl dX8_addBytes_62 ?_
      refine lv_iconst (v := 1) hx hb dX8_addBytes_65 (by decide) ?_
      refine lv_iadd hx hb dX8_addBytes_66 ?_
      refine lv_topi (fun x_24 ex_24 => ?_)
      obtain rfl : x_24 = (nI (n + 1)) := ex_24.trans (nI_1 n)
      refine fs_RX8_24 hC hw 0 rfl rfl rfl (Nat.le_of_ble_eq_true rfl) dX8_addBytes_67 (fun H locs hw => ?_)
      have hw : kW γ A [(h, .inr (8, [.ref hg, .int (nI (n + 1)), .int t2, .int t3, .int t4, .int t5, .long t6, .ref t7])), (hg, .inl (γ.2.1 2, 1000, .inl f_23))] s H locs := hw
      refine lv_iinc (v := 8) (lv' := [(3, .int 8), (4, .int x_21), (0, .ref h), (1, .long v)]) hx hb dX8_addBytes_70 hl (k := 1) rfl (by decide) (by decide) rfl (fun ls hl => ?_)
      refine lv_goto (tgt := 3) hx hb dX8_addBytes_73 (by decide) ?_
      have hst : kst n (kby v 16) = (n + 1) := by rw [← hk]; exact (by first | exact kst_a c21 hlt | exact kst_b c28 c35 hlt | exact kst_full hfull | exact kst_lo c21 c28 | exact kst_hi c21 c35)
      have hup : kup f n (kby v 16) = f_23 := by rw [← hk, ef_23, nI_clamp (by omega), kok_byte (b := x_21) (by first | exact kok_a c21 | exact kok_b c28 c35) ex_22]; exact kup_y (by first | exact kok_a c21 | exact kok_b c28 c35) hlt
      exact ab_6 h hg t2 t3 t4 t5 t6 t7 v (n + 1) f_23 (by omega) F G (by have h9 : kad v 2 (kst n (kby v 16)) = F := hF; rw [hst] at h9; exact h9) (by have h9 : kfa v 2 (kst n (kby v 16)) (kup f n (kby v 16)) = G := hG; rw [hst, hup] at h9; exact h9) hC hr hlocks _ _ (kW.sub hw [0, 1] rfl rfl) _ (lv_sub hl [0, 2, 3] rfl)
  · refine lv_iload hx hb dX8_addBytes_24 (lv_at hl 0 rfl) ?_
    refine lv_bipush (v := 32) hx hb dX8_addBytes_26 (by decide) ?_
    refine lv_icmp_lt (tgt := 70) hx hb dX8_addBytes_28 (by decide) (fun c28 => ?_) (fun c28 => ?_)
    · refine lv_iinc (v := 8) (lv' := [(3, .int 8), (4, .int x_21), (0, .ref h), (1, .long v)]) hx hb dX8_addBytes_70 hl (k := 1) rfl (by decide) (by decide) rfl (fun ls hl => ?_)
      refine lv_goto (tgt := 3) hx hb dX8_addBytes_73 (by decide) ?_
      have hst : kst n (kby v 16) = n := by rw [← hk]; exact (by first | exact kst_a c21 hlt | exact kst_b c28 c35 hlt | exact kst_full hfull | exact kst_lo c21 c28 | exact kst_hi c21 c35)
      have hup : kup f n (kby v 16) = f := by rw [← hk]; exact (by first | exact kup_full hfull | exact kup_lo c21 c28 | exact kup_hi c21 c35)
      exact ab_6 h hg t2 t3 t4 t5 t6 t7 v n f (by omega) F G (by have h9 : kad v 2 (kst n (kby v 16)) = F := hF; rw [hst] at h9; exact h9) (by have h9 : kfa v 2 (kst n (kby v 16)) (kup f n (kby v 16)) = G := hG; rw [hst, hup] at h9; exact h9) hC hr hlocks _ _ (kW.sub hw [0, 1] rfl rfl) _ (lv_sub hl [0, 2, 3] rfl)
    · refine lv_iload hx hb dX8_addBytes_31 (lv_at hl 0 rfl) ?_
      refine lv_bipush (v := 126) hx hb dX8_addBytes_33 (by decide) ?_
      refine lv_icmp_gt (tgt := 70) hx hb dX8_addBytes_35 (by decide) (fun c35 => ?_) (fun c35 => ?_)
      · refine lv_iinc (v := 8) (lv' := [(3, .int 8), (4, .int x_21), (0, .ref h), (1, .long v)]) hx hb dX8_addBytes_70 hl (k := 1) rfl (by decide) (by decide) rfl (fun ls hl => ?_)
        refine lv_goto (tgt := 3) hx hb dX8_addBytes_73 (by decide) ?_
        have hst : kst n (kby v 16) = n := by rw [← hk]; exact (by first | exact kst_a c21 hlt | exact kst_b c28 c35 hlt | exact kst_full hfull | exact kst_lo c21 c28 | exact kst_hi c21 c35)
        have hup : kup f n (kby v 16) = f := by rw [← hk]; exact (by first | exact kup_full hfull | exact kup_lo c21 c28 | exact kup_hi c21 c35)
        exact ab_6 h hg t2 t3 t4 t5 t6 t7 v n f (by omega) F G (by have h9 : kad v 2 (kst n (kby v 16)) = F := hF; rw [hst] at h9; exact h9) (by have h9 : kfa v 2 (kst n (kby v 16)) (kup f n (kby v 16)) = G := hG; rw [hst, hup] at h9; exact h9) hC hr hlocks _ _ (kW.sub hw [0, 1] rfl rfl) _ (lv_sub hl [0, 2, 3] rfl)
      · refine lv_aload_n hx hb dX8_addBytes_38 rfl (lv_at hl 2 rfl) ?_
        refine fg_RX8_24 hC hw 0 rfl rfl dX8_addBytes_39 ?_
        refine lv_sipush (v := 1000) hx hb dX8_addBytes_42 (by decide) ?_
        refine lv_icmp_ge (tgt := 70) hx hb dX8_addBytes_45 (by decide) (fun c45 => ?_) (fun c45 => ?_)
        · have hfull : ¬ n < 1000 := fun h9 => absurd c45 (nI_ge h9 (by decide))
          refine lv_iinc (v := 8) (lv' := [(3, .int 8), (4, .int x_21), (0, .ref h), (1, .long v)]) hx hb dX8_addBytes_70 hl (k := 1) rfl (by decide) (by decide) rfl (fun ls hl => ?_)
          refine lv_goto (tgt := 3) hx hb dX8_addBytes_73 (by decide) ?_
          have hst : kst n (kby v 16) = n := by rw [← hk]; exact (by first | exact kst_a c21 hlt | exact kst_b c28 c35 hlt | exact kst_full hfull | exact kst_lo c21 c28 | exact kst_hi c21 c35)
          have hup : kup f n (kby v 16) = f := by rw [← hk]; exact (by first | exact kup_full hfull | exact kup_lo c21 c28 | exact kup_hi c21 c35)
          exact ab_6 h hg t2 t3 t4 t5 t6 t7 v n f (by omega) F G (by have h9 : kad v 2 (kst n (kby v 16)) = F := hF; rw [hst] at h9; exact h9) (by have h9 : kfa v 2 (kst n (kby v 16)) (kup f n (kby v 16)) = G := hG; rw [hst, hup] at h9; exact h9) hC hr hlocks _ _ (kW.sub hw [0, 1] rfl rfl) _ (lv_sub hl [0, 2, 3] rfl)
        · have hlt : n < 1000 := by rcases Nat.lt_or_ge n 1000 with h9 | h9; exact h9; exact absurd (nI_le h9 (by omega)) c45
          refine lv_aload_n hx hb dX8_addBytes_48 rfl (lv_at hl 2 rfl) ?_
          refine fg_RX8_9 hC hw 0 rfl rfl dX8_addBytes_49 ?_
          refine lv_aload_n hx hb dX8_addBytes_52 rfl (lv_at hl 2 rfl) ?_
          refine fg_RX8_24 hC hw 0 rfl rfl dX8_addBytes_53 ?_
          refine lv_iload hx hb dX8_addBytes_56 (lv_at hl 0 rfl) ?_
          refine lv_i2b hx hb dX8_addBytes_58 rfl ?_
          refine lv_topi (fun x_25 ex_25 => ?_)
          refine k_bast hC hw 1 rfl (vp_in_nI hlt (by decide)) dX8_addBytes_59 (fun H locs hw => ?_)
          obtain ⟨f_26, ef_26⟩ : ∃ g, g = upd f ((nI n) : Int32).toNatClampNeg (vp_nar .byte x_25) := ⟨_, rfl⟩
          have hw : kW γ A [(h, .inr (8, [.ref hg, .int (nI n), .int t2, .int t3, .int t4, .int t5, .long t6, .ref t7])), (hg, .inl (γ.2.1 2, 1000, .inl f_26))] s H locs := by rw [ef_26]; exact hw
          refine lv_aload_n hx hb dX8_addBytes_60 rfl (lv_at hl 2 rfl) ?_
          refine lv_dup hx hb dX8_addBytes_61 rfl ?_
          refine fg_RX8_24 hC hw 0 rfl rfl dX8_addBytes_62 ?_
          refine lv_iconst (v := 1) hx hb dX8_addBytes_65 (by decide) ?_
          refine lv_iadd hx hb dX8_addBytes_66 ?_
          refine lv_topi (fun x_27 ex_27 => ?_)
          obtain rfl : x_27 = (nI (n + 1)) := ex_27.trans (nI_1 n)
          refine fs_RX8_24 hC hw 0 rfl rfl rfl (Nat.le_of_ble_eq_true rfl) dX8_addBytes_67 (fun H locs hw => ?_)
          have hw : kW γ A [(h, .inr (8, [.ref hg, .int (nI (n + 1)), .int t2, .int t3, .int t4, .int t5, .long t6, .ref t7])), (hg, .inl (γ.2.1 2, 1000, .inl f_26))] s H locs := hw
          refine lv_iinc (v := 8) (lv' := [(3, .int 8), (4, .int x_21), (0, .ref h), (1, .long v)]) hx hb dX8_addBytes_70 hl (k := 1) rfl (by decide) (by decide) rfl (fun ls hl => ?_)
          refine lv_goto (tgt := 3) hx hb dX8_addBytes_73 (by decide) ?_
          have hst : kst n (kby v 16) = (n + 1) := by rw [← hk]; exact (by first | exact kst_a c21 hlt | exact kst_b c28 c35 hlt | exact kst_full hfull | exact kst_lo c21 c28 | exact kst_hi c21 c35)
          have hup : kup f n (kby v 16) = f_26 := by rw [← hk, ef_26, nI_clamp (by omega), kok_byte (b := x_21) (by first | exact kok_a c21 | exact kok_b c28 c35) ex_25]; exact kup_y (by first | exact kok_a c21 | exact kok_b c28 c35) hlt
          exact ab_6 h hg t2 t3 t4 t5 t6 t7 v (n + 1) f_26 (by omega) F G (by have h9 : kad v 2 (kst n (kby v 16)) = F := hF; rw [hst] at h9; exact h9) (by have h9 : kfa v 2 (kst n (kby v 16)) (kup f n (kby v 16)) = G := hG; rw [hst, hup] at h9; exact h9) hC hr hlocks _ _ (kW.sub hw [0, 1] rfl rfl) _ (lv_sub hl [0, 2, 3] rfl)

set_option maxHeartbeats 4000000 in
set_option maxRecDepth 100000 in
theorem ab_4 {γ : kΓ} {l : Launch} {p : Program} {e : Env} {s : State} {m : MethodId} {below : List Frame} {meth : Method} {c : Code} {A : Nat → Prop} (h : Nat) (hg : Nat) (t2 : Int32) (t3 : Int32) (t4 : Int32) (t5 : Int32) (t6 : Int64) (t7 : Nat) (v : Int64) (n : Nat) (f : Nat → Int32) (hn : n ≤ 1000) (F : Nat) (G : Nat → Int32) (hF : kad v 4 n = F) (hG : kfa v 4 n f = G) (hC : kC γ p s m [.ref h, .long v].toArray c cX8_addBytes 5 RX8 A) (hr : meth.sig.returnType = none) (hlocks : meth.locks = false) (H : Heap) (locs : List Loc) (hw : kW γ A [(h, .inr (8, [.ref hg, .int (nI n), .int t2, .int t3, .int t4, .int t5, .long t6, .ref t7])), (hg, .inl (γ.2.1 2, 1000, .inl f))] s H locs) (ls : Array Slot) (hl : lv_has ls 5 [(3, .int 24), (0, .ref h), (1, .long v)]) : W p l e ({ frames := 0, cells := 0, slots := 0, locals := 0 } : Room) s m [.ref h, .long v].toArray below meth c H locs 0 0 (MQ below (kQ γ A (fun r w1 => r = none ∧ w1 = [(h, .inr (8, [.ref hg, .int (nI F), .int t2, .int t3, .int t4, .int t5, .long t6, .ref t7])), (hg, .inl (γ.2.1 2, 1000, .inl G))])) [.ref h, .long v].toArray s 0 0 A) (F0 m 3 ls []) := by
  have hx := hC.1
  have hb := hC.2.1
  refine lv_iload_n hx hb dX8_addBytes_3 rfl (lv_at hl 0 rfl) ?_
  refine lv_if_lt (tgt := 76) hx hb dX8_addBytes_4 (by decide) (fun h => absurd h (by decide)) (fun _ => ?_)
  refine lv_lload_n hx hb dX8_addBytes_7 rfl (lv_at hl 2 rfl) ?_
  refine lv_iload_n hx hb dX8_addBytes_8 rfl (lv_at hl 0 rfl) ?_
  refine lv_lushr hx hb dX8_addBytes_9 rfl ?_
  refine lv_topl (fun x_28 ex_28 => ?_)
  refine lv_l2i hx hb dX8_addBytes_10 rfl ?_
  refine lv_topi (fun x_29 ex_29 => ?_)
  refine lv_sipush (v := 255) hx hb dX8_addBytes_11 (by decide) ?_
  refine lv_iand hx hb dX8_addBytes_14 ?_
  refine lv_topi (fun x_30 ex_30 => ?_)
  refine lv_istore (lv' := [(4, .int x_30), (3, .int 24), (0, .ref h), (1, .long v)]) hx hb dX8_addBytes_15 hl (by decide) rfl (fun ls hl => ?_)
  have hk : x_30 = kby v 24 := by rw [ex_30, ex_29, ex_28]; rfl
  refine lv_iload hx hb dX8_addBytes_17 (lv_at hl 0 rfl) ?_
  refine lv_bipush (v := 10) hx hb dX8_addBytes_19 (by decide) ?_
  refine lv_icmp_eq (tgt := 38) hx hb dX8_addBytes_21 (by decide) (fun c21 => ?_) (fun c21 => ?_)
  · refine lv_aload_n hx hb dX8_addBytes_38 rfl (lv_at hl 2 rfl) ?_
    refine fg_RX8_24 hC hw 0 rfl rfl dX8_addBytes_39 ?_
    refine lv_sipush (v := 1000) hx hb dX8_addBytes_42 (by decide) ?_
    refine lv_icmp_ge (tgt := 70) hx hb dX8_addBytes_45 (by decide) (fun c45 => ?_) (fun c45 => ?_)
    · have hfull : ¬ n < 1000 := fun h9 => absurd c45 (nI_ge h9 (by decide))
      refine lv_iinc (v := 16) (lv' := [(3, .int 16), (4, .int x_30), (0, .ref h), (1, .long v)]) hx hb dX8_addBytes_70 hl (k := 1) rfl (by decide) (by decide) rfl (fun ls hl => ?_)
      refine lv_goto (tgt := 3) hx hb dX8_addBytes_73 (by decide) ?_
      have hst : kst n (kby v 24) = n := by rw [← hk]; exact (by first | exact kst_a c21 hlt | exact kst_b c28 c35 hlt | exact kst_full hfull | exact kst_lo c21 c28 | exact kst_hi c21 c35)
      have hup : kup f n (kby v 24) = f := by rw [← hk]; exact (by first | exact kup_full hfull | exact kup_lo c21 c28 | exact kup_hi c21 c35)
      exact ab_5 h hg t2 t3 t4 t5 t6 t7 v n f (by omega) F G (by have h9 : kad v 3 (kst n (kby v 24)) = F := hF; rw [hst] at h9; exact h9) (by have h9 : kfa v 3 (kst n (kby v 24)) (kup f n (kby v 24)) = G := hG; rw [hst, hup] at h9; exact h9) hC hr hlocks _ _ (kW.sub hw [0, 1] rfl rfl) _ (lv_sub hl [0, 2, 3] rfl)
    · have hlt : n < 1000 := by rcases Nat.lt_or_ge n 1000 with h9 | h9; exact h9; exact absurd (nI_le h9 (by omega)) c45
      refine lv_aload_n hx hb dX8_addBytes_48 rfl (lv_at hl 2 rfl) ?_
      refine fg_RX8_9 hC hw 0 rfl rfl dX8_addBytes_49 ?_
      refine lv_aload_n hx hb dX8_addBytes_52 rfl (lv_at hl 2 rfl) ?_
      refine fg_RX8_24 hC hw 0 rfl rfl dX8_addBytes_53 ?_
      refine lv_iload hx hb dX8_addBytes_56 (lv_at hl 0 rfl) ?_
      refine lv_i2b hx hb dX8_addBytes_58 rfl ?_
      refine lv_topi (fun x_31 ex_31 => ?_)
      refine k_bast hC hw 1 rfl (vp_in_nI hlt (by decide)) dX8_addBytes_59 (fun H locs hw => ?_)
      obtain ⟨f_32, ef_32⟩ : ∃ g, g = upd f ((nI n) : Int32).toNatClampNeg (vp_nar .byte x_31) := ⟨_, rfl⟩
      have hw : kW γ A [(h, .inr (8, [.ref hg, .int (nI n), .int t2, .int t3, .int t4, .int t5, .long t6, .ref t7])), (hg, .inl (γ.2.1 2, 1000, .inl f_32))] s H locs := by rw [ef_32]; exact hw
      refine lv_aload_n hx hb dX8_addBytes_60 rfl (lv_at hl 2 rfl) ?_
      refine lv_dup hx hb dX8_addBytes_61 rfl ?_
      refine fg_RX8_24 hC hw 0 rfl rfl dX8_addBytes_62 ?_
      refine lv_iconst (v := 1) hx hb dX8_addBytes_65 (by decide) ?_
      refine lv_iadd hx hb dX8_addBytes_66 ?_
      refine lv_topi (fun x_33 ex_33 => ?_)
      obtain rfl : x_33 = (nI (n + 1)) := ex_33.trans (nI_1 n)
      refine fs_RX8_24 hC hw 0 rfl rfl rfl (Nat.le_of_ble_eq_true rfl) dX8_addBytes_67 (fun H locs hw => ?_)
      have hw : kW γ A [(h, .inr (8, [.ref hg, .int (nI (n + 1)), .int t2, .int t3, .int t4, .int t5, .long t6, .ref t7])), (hg, .inl (γ.2.1 2, 1000, .inl f_32))] s H locs := hw
      refine lv_iinc (v := 16) (lv' := [(3, .int 16), (4, .int x_30), (0, .ref h), (1, .long v)]) hx hb dX8_addBytes_70 hl (k := 1) rfl (by decide) (by decide) rfl (fun ls hl => ?_)
      refine lv_goto (tgt := 3) hx hb dX8_addBytes_73 (by decide) ?_
      have hst : kst n (kby v 24) = (n + 1) := by rw [← hk]; exact (by first | exact kst_a c21 hlt | exact kst_b c28 c35 hlt | exact kst_full hfull | exact kst_lo c21 c28 | exact kst_hi c21 c35)
      have hup : kup f n (kby v 24) = f_32 := by rw [← hk, ef_32, nI_clamp (by omega), kok_byte (b := x_30) (by first | exact kok_a c21 | exact kok_b c28 c35) ex_31]; exact kup_y (by first | exact kok_a c21 | exact kok_b c28 c35) hlt
      exact ab_5 h hg t2 t3 t4 t5 t6 t7 v (n + 1) f_32 (by omega) F G (by have h9 : kad v 3 (kst n (kby v 24)) = F := hF; rw [hst] at h9; exact h9) (by have h9 : kfa v 3 (kst n (kby v 24)) (kup f n (kby v 24)) = G := hG; rw [hst, hup] at h9; exact h9) hC hr hlocks _ _ (kW.sub hw [0, 1] rfl rfl) _ (lv_sub hl [0, 2, 3] rfl)
  · refine lv_iload hx hb dX8_addBytes_24 (lv_at hl 0 rfl) ?_
    refine lv_bipush (v := 32) hx hb dX8_addBytes_26 (by decide) ?_
    refine lv_icmp_lt (tgt := 70) hx hb dX8_addBytes_28 (by decide) (fun c28 => ?_) (fun c28 => ?_)
    · refine lv_iinc (v := 16) (lv' := [(3, .int 16), (4, .int x_30), (0, .ref h), (1, .long v)]) hx hb dX8_addBytes_70 hl (k := 1) rfl (by decide) (by decide) rfl (fun ls hl => ?_)
      refine lv_goto (tgt := 3) hx hb dX8_addBytes_73 (by decide) ?_
      have hst : kst n (kby v 24) = n := by rw [← hk]; exact (by first | exact kst_a c21 hlt | exact kst_b c28 c35 hlt | exact kst_full hfull | exact kst_lo c21 c28 | exact kst_hi c21 c35)
      have hup : kup f n (kby v 24) = f := by rw [← hk]; exact (by first | exact kup_full hfull | exact kup_lo c21 c28 | exact kup_hi c21 c35)
      exact ab_5 h hg t2 t3 t4 t5 t6 t7 v n f (by omega) F G (by have h9 : kad v 3 (kst n (kby v 24)) = F := hF; rw [hst] at h9; exact h9) (by have h9 : kfa v 3 (kst n (kby v 24)) (kup f n (kby v 24)) = G := hG; rw [hst, hup] at h9; exact h9) hC hr hlocks _ _ (kW.sub hw [0, 1] rfl rfl) _ (lv_sub hl [0, 2, 3] rfl)
    · refine lv_iload hx hb dX8_addBytes_31 (lv_at hl 0 rfl) ?_
      refine lv_bipush (v := 126) hx hb dX8_addBytes_33 (by decide) ?_
      refine lv_icmp_gt (tgt := 70) hx hb dX8_addBytes_35 (by decide) (fun c35 => ?_) (fun c35 => ?_)
      · refine lv_iinc (v := 16) (lv' := [(3, .int 16), (4, .int x_30), (0, .ref h), (1, .long v)]) hx hb dX8_addBytes_70 hl (k := 1) rfl (by decide) (by decide) rfl (fun ls hl => ?_)
        refine lv_goto (tgt := 3) hx hb dX8_addBytes_73 (by decide) ?_
        have hst : kst n (kby v 24) = n := by rw [← hk]; exact (by first | exact kst_a c21 hlt | exact kst_b c28 c35 hlt | exact kst_full hfull | exact kst_lo c21 c28 | exact kst_hi c21 c35)
        have hup : kup f n (kby v 24) = f := by rw [← hk]; exact (by first | exact kup_full hfull | exact kup_lo c21 c28 | exact kup_hi c21 c35)
        exact ab_5 h hg t2 t3 t4 t5 t6 t7 v n f (by omega) F G (by have h9 : kad v 3 (kst n (kby v 24)) = F := hF; rw [hst] at h9; exact h9) (by have h9 : kfa v 3 (kst n (kby v 24)) (kup f n (kby v 24)) = G := hG; rw [hst, hup] at h9; exact h9) hC hr hlocks _ _ (kW.sub hw [0, 1] rfl rfl) _ (lv_sub hl [0, 2, 3] rfl)
      · refine lv_aload_n hx hb dX8_addBytes_38 rfl (lv_at hl 2 rfl) ?_
        refine fg_RX8_24 hC hw 0 rfl rfl dX8_addBytes_39 ?_
        refine lv_sipush (v := 1000) hx hb dX8_addBytes_42 (by decide) ?_
        refine lv_icmp_ge (tgt := 70) hx hb dX8_addBytes_45 (by decide) (fun c45 => ?_) (fun c45 => ?_)
        · have hfull : ¬ n < 1000 := fun h9 => absurd c45 (nI_ge h9 (by decide))
          refine lv_iinc (v := 16) (lv' := [(3, .int 16), (4, .int x_30), (0, .ref h), (1, .long v)]) hx hb dX8_addBytes_70 hl (k := 1) rfl (by decide) (by decide) rfl (fun ls hl => ?_)
          refine lv_goto (tgt := 3) hx hb dX8_addBytes_73 (by decide) ?_
          have hst : kst n (kby v 24) = n := by rw [← hk]; exact (by first | exact kst_a c21 hlt | exact kst_b c28 c35 hlt | exact kst_full hfull | exact kst_lo c21 c28 | exact kst_hi c21 c35)
          have hup : kup f n (kby v 24) = f := by rw [← hk]; exact (by first | exact kup_full hfull | exact kup_lo c21 c28 | exact kup_hi c21 c35)
          exact ab_5 h hg t2 t3 t4 t5 t6 t7 v n f (by omega) F G (by have h9 : kad v 3 (kst n (kby v 24)) = F := hF; rw [hst] at h9; exact h9) (by have h9 : kfa v 3 (kst n (kby v 24)) (kup f n (kby v 24)) = G := hG; rw [hst, hup] at h9; exact h9) hC hr hlocks _ _ (kW.sub hw [0, 1] rfl rfl) _ (lv_sub hl [0, 2, 3] rfl)
        · have hlt : n < 1000 := by rcases Nat.lt_or_ge n 1000 with h9 | h9; exact h9; exact absurd (nI_le h9 (by omega)) c45
          refine lv_aload_n hx hb dX8_addBytes_48 rfl (lv_at hl 2 rfl) ?_
          refine fg_RX8_9 hC hw 0 rfl rfl dX8_addBytes_49 ?_
          refine lv_aload_n hx hb dX8_addBytes_52 rfl (lv_at hl 2 rfl) ?_
          refine fg_RX8_24 hC hw 0 rfl rfl dX8_addBytes_53 ?_
          refine lv_iload hx hb dX8_addBytes_56 (lv_at hl 0 rfl) ?_
          refine lv_i2b hx hb dX8_addBytes_58 rfl ?_
          refine lv_topi (fun x_34 ex_34 => ?_)
          refine k_bast hC hw 1 rfl (vp_in_nI hlt (by decide)) dX8_addBytes_59 (fun H locs hw => ?_)
          obtain ⟨f_35, ef_35⟩ : ∃ g, g = upd f ((nI n) : Int32).toNatClampNeg (vp_nar .byte x_34) := ⟨_, rfl⟩
          have hw : kW γ A [(h, .inr (8, [.ref hg, .int (nI n), .int t2, .int t3, .int t4, .int t5, .long t6, .ref t7])), (hg, .inl (γ.2.1 2, 1000, .inl f_35))] s H locs := by rw [ef_35]; exact hw
          refine lv_aload_n hx hb dX8_addBytes_60 rfl (lv_at hl 2 rfl) ?_
          refine lv_dup hx hb dX8_addBytes_61 rfl ?_
          refine fg_RX8_24 hC hw 0 rfl rfl dX8_addBytes_62 ?_
          refine lv_iconst (v := 1) hx hb dX8_addBytes_65 (by decide) ?_
          refine lv_iadd hx hb dX8_addBytes_66 ?_
          refine lv_topi (fun x_36 ex_36 => ?_)
          obtain rfl : x_36 = (nI (n + 1)) := ex_36.trans (nI_1 n)
          refine fs_RX8_24 hC hw 0 rfl rfl rfl (Nat.le_of_ble_eq_true rfl) dX8_addBytes_67 (fun H locs hw => ?_)
          have hw : kW γ A [(h, .inr (8, [.ref hg, .int (nI (n + 1)), .int t2, .int t3, .int t4, .int t5, .long t6, .ref t7])), (hg, .inl (γ.2.1 2, 1000, .inl f_35))] s H locs := hw
          refine lv_iinc (v := 16) (lv' := [(3, .int 16), (4, .int x_30), (0, .ref h), (1, .long v)]) hx hb dX8_addBytes_70 hl (k := 1) rfl (by decide) (by decide) rfl (fun ls hl => ?_)
          refine lv_goto (tgt := 3) hx hb dX8_addBytes_73 (by decide) ?_
          have hst : kst n (kby v 24) = (n + 1) := by rw [← hk]; exact (by first | exact kst_a c21 hlt | exact kst_b c28 c35 hlt | exact kst_full hfull | exact kst_lo c21 c28 | exact kst_hi c21 c35)
          have hup : kup f n (kby v 24) = f_35 := by rw [← hk, ef_35, nI_clamp (by omega), kok_byte (b := x_30) (by first | exact kok_a c21 | exact kok_b c28 c35) ex_34]; exact kup_y (by first | exact kok_a c21 | exact kok_b c28 c35) hlt
          exact ab_5 h hg t2 t3 t4 t5 t6 t7 v (n + 1) f_35 (by omega) F G (by have h9 : kad v 3 (kst n (kby v 24)) = F := hF; rw [hst] at h9; exact h9) (by have h9 : kfa v 3 (kst n (kby v 24)) (kup f n (kby v 24)) = G := hG; rw [hst, hup] at h9; exact h9) hC hr hlocks _ _ (kW.sub hw [0, 1] rfl rfl) _ (lv_sub hl [0, 2, 3] rfl)

set_option maxHeartbeats 4000000 in
set_option maxRecDepth 100000 in
theorem ab_3 {γ : kΓ} {l : Launch} {p : Program} {e : Env} {s : State} {m : MethodId} {below : List Frame} {meth : Method} {c : Code} {A : Nat → Prop} (h : Nat) (hg : Nat) (t2 : Int32) (t3 : Int32) (t4 : Int32) (t5 : Int32) (t6 : Int64) (t7 : Nat) (v : Int64) (n : Nat) (f : Nat → Int32) (hn : n ≤ 1000) (F : Nat) (G : Nat → Int32) (hF : kad v 5 n = F) (hG : kfa v 5 n f = G) (hC : kC γ p s m [.ref h, .long v].toArray c cX8_addBytes 5 RX8 A) (hr : meth.sig.returnType = none) (hlocks : meth.locks = false) (H : Heap) (locs : List Loc) (hw : kW γ A [(h, .inr (8, [.ref hg, .int (nI n), .int t2, .int t3, .int t4, .int t5, .long t6, .ref t7])), (hg, .inl (γ.2.1 2, 1000, .inl f))] s H locs) (ls : Array Slot) (hl : lv_has ls 5 [(3, .int 32), (0, .ref h), (1, .long v)]) : W p l e ({ frames := 0, cells := 0, slots := 0, locals := 0 } : Room) s m [.ref h, .long v].toArray below meth c H locs 0 0 (MQ below (kQ γ A (fun r w1 => r = none ∧ w1 = [(h, .inr (8, [.ref hg, .int (nI F), .int t2, .int t3, .int t4, .int t5, .long t6, .ref t7])), (hg, .inl (γ.2.1 2, 1000, .inl G))])) [.ref h, .long v].toArray s 0 0 A) (F0 m 3 ls []) := by
  have hx := hC.1
  have hb := hC.2.1
  refine lv_iload_n hx hb dX8_addBytes_3 rfl (lv_at hl 0 rfl) ?_
  refine lv_if_lt (tgt := 76) hx hb dX8_addBytes_4 (by decide) (fun h => absurd h (by decide)) (fun _ => ?_)
  refine lv_lload_n hx hb dX8_addBytes_7 rfl (lv_at hl 2 rfl) ?_
  refine lv_iload_n hx hb dX8_addBytes_8 rfl (lv_at hl 0 rfl) ?_
  refine lv_lushr hx hb dX8_addBytes_9 rfl ?_
  refine lv_topl (fun x_37 ex_37 => ?_)
  refine lv_l2i hx hb dX8_addBytes_10 rfl ?_
  refine lv_topi (fun x_38 ex_38 => ?_)
  refine lv_sipush (v := 255) hx hb dX8_addBytes_11 (by decide) ?_
  refine lv_iand hx hb dX8_addBytes_14 ?_
  refine lv_topi (fun x_39 ex_39 => ?_)
  refine lv_istore (lv' := [(4, .int x_39), (3, .int 32), (0, .ref h), (1, .long v)]) hx hb dX8_addBytes_15 hl (by decide) rfl (fun ls hl => ?_)
  have hk : x_39 = kby v 32 := by rw [ex_39, ex_38, ex_37]; rfl
  refine lv_iload hx hb dX8_addBytes_17 (lv_at hl 0 rfl) ?_
  refine lv_bipush (v := 10) hx hb dX8_addBytes_19 (by decide) ?_
  refine lv_icmp_eq (tgt := 38) hx hb dX8_addBytes_21 (by decide) (fun c21 => ?_) (fun c21 => ?_)
  · refine lv_aload_n hx hb dX8_addBytes_38 rfl (lv_at hl 2 rfl) ?_
    refine fg_RX8_24 hC hw 0 rfl rfl dX8_addBytes_39 ?_
    refine lv_sipush (v := 1000) hx hb dX8_addBytes_42 (by decide) ?_
    refine lv_icmp_ge (tgt := 70) hx hb dX8_addBytes_45 (by decide) (fun c45 => ?_) (fun c45 => ?_)
    · have hfull : ¬ n < 1000 := fun h9 => absurd c45 (nI_ge h9 (by decide))
      refine lv_iinc (v := 24) (lv' := [(3, .int 24), (4, .int x_39), (0, .ref h), (1, .long v)]) hx hb dX8_addBytes_70 hl (k := 1) rfl (by decide) (by decide) rfl (fun ls hl => ?_)
      refine lv_goto (tgt := 3) hx hb dX8_addBytes_73 (by decide) ?_
      have hst : kst n (kby v 32) = n := by rw [← hk]; exact (by first | exact kst_a c21 hlt | exact kst_b c28 c35 hlt | exact kst_full hfull | exact kst_lo c21 c28 | exact kst_hi c21 c35)
      have hup : kup f n (kby v 32) = f := by rw [← hk]; exact (by first | exact kup_full hfull | exact kup_lo c21 c28 | exact kup_hi c21 c35)
      exact ab_4 h hg t2 t3 t4 t5 t6 t7 v n f (by omega) F G (by have h9 : kad v 4 (kst n (kby v 32)) = F := hF; rw [hst] at h9; exact h9) (by have h9 : kfa v 4 (kst n (kby v 32)) (kup f n (kby v 32)) = G := hG; rw [hst, hup] at h9; exact h9) hC hr hlocks _ _ (kW.sub hw [0, 1] rfl rfl) _ (lv_sub hl [0, 2, 3] rfl)
    · have hlt : n < 1000 := by rcases Nat.lt_or_ge n 1000 with h9 | h9; exact h9; exact absurd (nI_le h9 (by omega)) c45
      refine lv_aload_n hx hb dX8_addBytes_48 rfl (lv_at hl 2 rfl) ?_
      refine fg_RX8_9 hC hw 0 rfl rfl dX8_addBytes_49 ?_
      refine lv_aload_n hx hb dX8_addBytes_52 rfl (lv_at hl 2 rfl) ?_
      refine fg_RX8_24 hC hw 0 rfl rfl dX8_addBytes_53 ?_
      refine lv_iload hx hb dX8_addBytes_56 (lv_at hl 0 rfl) ?_
      refine lv_i2b hx hb dX8_addBytes_58 rfl ?_
      refine lv_topi (fun x_40 ex_40 => ?_)
      refine k_bast hC hw 1 rfl (vp_in_nI hlt (by decide)) dX8_addBytes_59 (fun H locs hw => ?_)
      obtain ⟨f_41, ef_41⟩ : ∃ g, g = upd f ((nI n) : Int32).toNatClampNeg (vp_nar .byte x_40) := ⟨_, rfl⟩
      have hw : kW γ A [(h, .inr (8, [.ref hg, .int (nI n), .int t2, .int t3, .int t4, .int t5, .long t6, .ref t7])), (hg, .inl (γ.2.1 2, 1000, .inl f_41))] s H locs := by rw [ef_41]; exact hw
      refine lv_aload_n hx hb dX8_addBytes_60 rfl (lv_at hl 2 rfl) ?_
      refine lv_dup hx hb dX8_addBytes_61 rfl ?_
      refine fg_RX8_24 hC hw 0 rfl rfl dX8_addBytes_62 ?_
      refine lv_iconst (v := 1) hx hb dX8_addBytes_65 (by decide) ?_
      refine lv_iadd hx hb dX8_addBytes_66 ?_
      refine lv_topi (fun x_42 ex_42 => ?_)
      obtain rfl : x_42 = (nI (n + 1)) := ex_42.trans (nI_1 n)
      refine fs_RX8_24 hC hw 0 rfl rfl rfl (Nat.le_of_ble_eq_true rfl) dX8_addBytes_67 (fun H locs hw => ?_)
      have hw : kW γ A [(h, .inr (8, [.ref hg, .int (nI (n + 1)), .int t2, .int t3, .int t4, .int t5, .long t6, .ref t7])), (hg, .inl (γ.2.1 2, 1000, .inl f_41))] s H locs := hw
      refine lv_iinc (v := 24) (lv' := [(3, .int 24), (4, .int x_39), (0, .ref h), (1, .long v)]) hx hb dX8_addBytes_70 hl (k := 1) rfl (by decide) (by decide) rfl (fun ls hl => ?_)
      refine lv_goto (tgt := 3) hx hb dX8_addBytes_73 (by decide) ?_
      have hst : kst n (kby v 32) = (n + 1) := by rw [← hk]; exact (by first | exact kst_a c21 hlt | exact kst_b c28 c35 hlt | exact kst_full hfull | exact kst_lo c21 c28 | exact kst_hi c21 c35)
      have hup : kup f n (kby v 32) = f_41 := by rw [← hk, ef_41, nI_clamp (by omega), kok_byte (b := x_39) (by first | exact kok_a c21 | exact kok_b c28 c35) ex_40]; exact kup_y (by first | exact kok_a c21 | exact kok_b c28 c35) hlt
      exact ab_4 h hg t2 t3 t4 t5 t6 t7 v (n + 1) f_41 (by omega) F G (by have h9 : kad v 4 (kst n (kby v 32)) = F := hF; rw [hst] at h9; exact h9) (by have h9 : kfa v 4 (kst n (kby v 32)) (kup f n (kby v 32)) = G := hG; rw [hst, hup] at h9; exact h9) hC hr hlocks _ _ (kW.sub hw [0, 1] rfl rfl) _ (lv_sub hl [0, 2, 3] rfl)
  · refine lv_iload hx hb dX8_addBytes_24 (lv_at hl 0 rfl) ?_
    refine lv_bipush (v := 32) hx hb dX8_addBytes_26 (by decide) ?_
    refine lv_icmp_lt (tgt := 70) hx hb dX8_addBytes_28 (by decide) (fun c28 => ?_) (fun c28 => ?_)
    · refine lv_iinc (v := 24) (lv' := [(3, .int 24), (4, .int x_39), (0, .ref h), (1, .long v)]) hx hb dX8_addBytes_70 hl (k := 1) rfl (by decide) (by decide) rfl (fun ls hl => ?_)
      refine lv_goto (tgt := 3) hx hb dX8_addBytes_73 (by decide) ?_
      have hst : kst n (kby v 32) = n := by rw [← hk]; exact (by first | exact kst_a c21 hlt | exact kst_b c28 c35 hlt | exact kst_full hfull | exact kst_lo c21 c28 | exact kst_hi c21 c35)
      have hup : kup f n (kby v 32) = f := by rw [← hk]; exact (by first | exact kup_full hfull | exact kup_lo c21 c28 | exact kup_hi c21 c35)
      exact ab_4 h hg t2 t3 t4 t5 t6 t7 v n f (by omega) F G (by have h9 : kad v 4 (kst n (kby v 32)) = F := hF; rw [hst] at h9; exact h9) (by have h9 : kfa v 4 (kst n (kby v 32)) (kup f n (kby v 32)) = G := hG; rw [hst, hup] at h9; exact h9) hC hr hlocks _ _ (kW.sub hw [0, 1] rfl rfl) _ (lv_sub hl [0, 2, 3] rfl)
    · refine lv_iload hx hb dX8_addBytes_31 (lv_at hl 0 rfl) ?_
      refine lv_bipush (v := 126) hx hb dX8_addBytes_33 (by decide) ?_
      refine lv_icmp_gt (tgt := 70) hx hb dX8_addBytes_35 (by decide) (fun c35 => ?_) (fun c35 => ?_)
      · refine lv_iinc (v := 24) (lv' := [(3, .int 24), (4, .int x_39), (0, .ref h), (1, .long v)]) hx hb dX8_addBytes_70 hl (k := 1) rfl (by decide) (by decide) rfl (fun ls hl => ?_)
        refine lv_goto (tgt := 3) hx hb dX8_addBytes_73 (by decide) ?_
        have hst : kst n (kby v 32) = n := by rw [← hk]; exact (by first | exact kst_a c21 hlt | exact kst_b c28 c35 hlt | exact kst_full hfull | exact kst_lo c21 c28 | exact kst_hi c21 c35)
        have hup : kup f n (kby v 32) = f := by rw [← hk]; exact (by first | exact kup_full hfull | exact kup_lo c21 c28 | exact kup_hi c21 c35)
        exact ab_4 h hg t2 t3 t4 t5 t6 t7 v n f (by omega) F G (by have h9 : kad v 4 (kst n (kby v 32)) = F := hF; rw [hst] at h9; exact h9) (by have h9 : kfa v 4 (kst n (kby v 32)) (kup f n (kby v 32)) = G := hG; rw [hst, hup] at h9; exact h9) hC hr hlocks _ _ (kW.sub hw [0, 1] rfl rfl) _ (lv_sub hl [0, 2, 3] rfl)
      · refine lv_aload_n hx hb dX8_addBytes_38 rfl (lv_at hl 2 rfl) ?_
        refine fg_RX8_24 hC hw 0 rfl rfl dX8_addBytes_39 ?_
        refine lv_sipush (v := 1000) hx hb dX8_addBytes_42 (by decide) ?_
        refine lv_icmp_ge (tgt := 70) hx hb dX8_addBytes_45 (by decide) (fun c45 => ?_) (fun c45 => ?_)
        · have hfull : ¬ n < 1000 := fun h9 => absurd c45 (nI_ge h9 (by decide))
          refine lv_iinc (v := 24) (lv' := [(3, .int 24), (4, .int x_39), (0, .ref h), (1, .long v)]) hx hb dX8_addBytes_70 hl (k := 1) rfl (by decide) (by decide) rfl (fun ls hl => ?_)
          refine lv_goto (tgt := 3) hx hb dX8_addBytes_73 (by decide) ?_
          have hst : kst n (kby v 32) = n := by rw [← hk]; exact (by first | exact kst_a c21 hlt | exact kst_b c28 c35 hlt | exact kst_full hfull | exact kst_lo c21 c28 | exact kst_hi c21 c35)
          have hup : kup f n (kby v 32) = f := by rw [← hk]; exact (by first | exact kup_full hfull | exact kup_lo c21 c28 | exact kup_hi c21 c35)
          exact ab_4 h hg t2 t3 t4 t5 t6 t7 v n f (by omega) F G (by have h9 : kad v 4 (kst n (kby v 32)) = F := hF; rw [hst] at h9; exact h9) (by have h9 : kfa v 4 (kst n (kby v 32)) (kup f n (kby v 32)) = G := hG; rw [hst, hup] at h9; exact h9) hC hr hlocks _ _ (kW.sub hw [0, 1] rfl rfl) _ (lv_sub hl [0, 2, 3] rfl)
        · have hlt : n < 1000 := by rcases Nat.lt_or_ge n 1000 with h9 | h9; exact h9; exact absurd (nI_le h9 (by omega)) c45
          refine lv_aload_n hx hb dX8_addBytes_48 rfl (lv_at hl 2 rfl) ?_
          refine fg_RX8_9 hC hw 0 rfl rfl dX8_addBytes_49 ?_
          refine lv_aload_n hx hb dX8_addBytes_52 rfl (lv_at hl 2 rfl) ?_
          refine fg_RX8_24 hC hw 0 rfl rfl dX8_addBytes_53 ?_
          refine lv_iload hx hb dX8_addBytes_56 (lv_at hl 0 rfl) ?_
          refine lv_i2b hx hb dX8_addBytes_58 rfl ?_
          refine lv_topi (fun x_43 ex_43 => ?_)
          refine k_bast hC hw 1 rfl (vp_in_nI hlt (by decide)) dX8_addBytes_59 (fun H locs hw => ?_)
          obtain ⟨f_44, ef_44⟩ : ∃ g, g = upd f ((nI n) : Int32).toNatClampNeg (vp_nar .byte x_43) := ⟨_, rfl⟩
          have hw : kW γ A [(h, .inr (8, [.ref hg, .int (nI n), .int t2, .int t3, .int t4, .int t5, .long t6, .ref t7])), (hg, .inl (γ.2.1 2, 1000, .inl f_44))] s H locs := by rw [ef_44]; exact hw
          refine lv_aload_n hx hb dX8_addBytes_60 rfl (lv_at hl 2 rfl) ?_
          refine lv_dup hx hb dX8_addBytes_61 rfl ?_
          refine fg_RX8_24 hC hw 0 rfl rfl dX8_addBytes_62 ?_
          refine lv_iconst (v := 1) hx hb dX8_addBytes_65 (by decide) ?_
          refine lv_iadd hx hb dX8_addBytes_66 ?_
          refine lv_topi (fun x_45 ex_45 => ?_)
          obtain rfl : x_45 = (nI (n + 1)) := ex_45.trans (nI_1 n)
          refine fs_RX8_24 hC hw 0 rfl rfl rfl (Nat.le_of_ble_eq_true rfl) dX8_addBytes_67 (fun H locs hw => ?_)
          have hw : kW γ A [(h, .inr (8, [.ref hg, .int (nI (n + 1)), .int t2, .int t3, .int t4, .int t5, .long t6, .ref t7])), (hg, .inl (γ.2.1 2, 1000, .inl f_44))] s H locs := hw
          refine lv_iinc (v := 24) (lv' := [(3, .int 24), (4, .int x_39), (0, .ref h), (1, .long v)]) hx hb dX8_addBytes_70 hl (k := 1) rfl (by decide) (by decide) rfl (fun ls hl => ?_)
          refine lv_goto (tgt := 3) hx hb dX8_addBytes_73 (by decide) ?_
          have hst : kst n (kby v 32) = (n + 1) := by rw [← hk]; exact (by first | exact kst_a c21 hlt | exact kst_b c28 c35 hlt | exact kst_full hfull | exact kst_lo c21 c28 | exact kst_hi c21 c35)
          have hup : kup f n (kby v 32) = f_44 := by rw [← hk, ef_44, nI_clamp (by omega), kok_byte (b := x_39) (by first | exact kok_a c21 | exact kok_b c28 c35) ex_43]; exact kup_y (by first | exact kok_a c21 | exact kok_b c28 c35) hlt
          exact ab_4 h hg t2 t3 t4 t5 t6 t7 v (n + 1) f_44 (by omega) F G (by have h9 : kad v 4 (kst n (kby v 32)) = F := hF; rw [hst] at h9; exact h9) (by have h9 : kfa v 4 (kst n (kby v 32)) (kup f n (kby v 32)) = G := hG; rw [hst, hup] at h9; exact h9) hC hr hlocks _ _ (kW.sub hw [0, 1] rfl rfl) _ (lv_sub hl [0, 2, 3] rfl)

set_option maxHeartbeats 4000000 in
set_option maxRecDepth 100000 in
theorem ab_2 {γ : kΓ} {l : Launch} {p : Program} {e : Env} {s : State} {m : MethodId} {below : List Frame} {meth : Method} {c : Code} {A : Nat → Prop} (h : Nat) (hg : Nat) (t2 : Int32) (t3 : Int32) (t4 : Int32) (t5 : Int32) (t6 : Int64) (t7 : Nat) (v : Int64) (n : Nat) (f : Nat → Int32) (hn : n ≤ 1000) (F : Nat) (G : Nat → Int32) (hF : kad v 6 n = F) (hG : kfa v 6 n f = G) (hC : kC γ p s m [.ref h, .long v].toArray c cX8_addBytes 5 RX8 A) (hr : meth.sig.returnType = none) (hlocks : meth.locks = false) (H : Heap) (locs : List Loc) (hw : kW γ A [(h, .inr (8, [.ref hg, .int (nI n), .int t2, .int t3, .int t4, .int t5, .long t6, .ref t7])), (hg, .inl (γ.2.1 2, 1000, .inl f))] s H locs) (ls : Array Slot) (hl : lv_has ls 5 [(3, .int 40), (0, .ref h), (1, .long v)]) : W p l e ({ frames := 0, cells := 0, slots := 0, locals := 0 } : Room) s m [.ref h, .long v].toArray below meth c H locs 0 0 (MQ below (kQ γ A (fun r w1 => r = none ∧ w1 = [(h, .inr (8, [.ref hg, .int (nI F), .int t2, .int t3, .int t4, .int t5, .long t6, .ref t7])), (hg, .inl (γ.2.1 2, 1000, .inl G))])) [.ref h, .long v].toArray s 0 0 A) (F0 m 3 ls []) := by
  have hx := hC.1
  have hb := hC.2.1
  refine lv_iload_n hx hb dX8_addBytes_3 rfl (lv_at hl 0 rfl) ?_
  refine lv_if_lt (tgt := 76) hx hb dX8_addBytes_4 (by decide) (fun h => absurd h (by decide)) (fun _ => ?_)
  refine lv_lload_n hx hb dX8_addBytes_7 rfl (lv_at hl 2 rfl) ?_
  refine lv_iload_n hx hb dX8_addBytes_8 rfl (lv_at hl 0 rfl) ?_
  refine lv_lushr hx hb dX8_addBytes_9 rfl ?_
  refine lv_topl (fun x_46 ex_46 => ?_)
  refine lv_l2i hx hb dX8_addBytes_10 rfl ?_
  refine lv_topi (fun x_47 ex_47 => ?_)
  refine lv_sipush (v := 255) hx hb dX8_addBytes_11 (by decide) ?_
  refine lv_iand hx hb dX8_addBytes_14 ?_
  refine lv_topi (fun x_48 ex_48 => ?_)
  refine lv_istore (lv' := [(4, .int x_48), (3, .int 40), (0, .ref h), (1, .long v)]) hx hb dX8_addBytes_15 hl (by decide) rfl (fun ls hl => ?_)
  have hk : x_48 = kby v 40 := by rw [ex_48, ex_47, ex_46]; rfl
  refine lv_iload hx hb dX8_addBytes_17 (lv_at hl 0 rfl) ?_
  refine lv_bipush (v := 10) hx hb dX8_addBytes_19 (by decide) ?_
  refine lv_icmp_eq (tgt := 38) hx hb dX8_addBytes_21 (by decide) (fun c21 => ?_) (fun c21 => ?_)
  · refine lv_aload_n hx hb dX8_addBytes_38 rfl (lv_at hl 2 rfl) ?_
    refine fg_RX8_24 hC hw 0 rfl rfl dX8_addBytes_39 ?_
    refine lv_sipush (v := 1000) hx hb dX8_addBytes_42 (by decide) ?_
    refine lv_icmp_ge (tgt := 70) hx hb dX8_addBytes_45 (by decide) (fun c45 => ?_) (fun c45 => ?_)
    · have hfull : ¬ n < 1000 := fun h9 => absurd c45 (nI_ge h9 (by decide))
      refine lv_iinc (v := 32) (lv' := [(3, .int 32), (4, .int x_48), (0, .ref h), (1, .long v)]) hx hb dX8_addBytes_70 hl (k := 1) rfl (by decide) (by decide) rfl (fun ls hl => ?_)
      refine lv_goto (tgt := 3) hx hb dX8_addBytes_73 (by decide) ?_
      have hst : kst n (kby v 40) = n := by rw [← hk]; exact (by first | exact kst_a c21 hlt | exact kst_b c28 c35 hlt | exact kst_full hfull | exact kst_lo c21 c28 | exact kst_hi c21 c35)
      have hup : kup f n (kby v 40) = f := by rw [← hk]; exact (by first | exact kup_full hfull | exact kup_lo c21 c28 | exact kup_hi c21 c35)
      exact ab_3 h hg t2 t3 t4 t5 t6 t7 v n f (by omega) F G (by have h9 : kad v 5 (kst n (kby v 40)) = F := hF; rw [hst] at h9; exact h9) (by have h9 : kfa v 5 (kst n (kby v 40)) (kup f n (kby v 40)) = G := hG; rw [hst, hup] at h9; exact h9) hC hr hlocks _ _ (kW.sub hw [0, 1] rfl rfl) _ (lv_sub hl [0, 2, 3] rfl)
    · have hlt : n < 1000 := by rcases Nat.lt_or_ge n 1000 with h9 | h9; exact h9; exact absurd (nI_le h9 (by omega)) c45
      refine lv_aload_n hx hb dX8_addBytes_48 rfl (lv_at hl 2 rfl) ?_
      refine fg_RX8_9 hC hw 0 rfl rfl dX8_addBytes_49 ?_
      refine lv_aload_n hx hb dX8_addBytes_52 rfl (lv_at hl 2 rfl) ?_
      refine fg_RX8_24 hC hw 0 rfl rfl dX8_addBytes_53 ?_
      refine lv_iload hx hb dX8_addBytes_56 (lv_at hl 0 rfl) ?_
      refine lv_i2b hx hb dX8_addBytes_58 rfl ?_
      refine lv_topi (fun x_49 ex_49 => ?_)
      refine k_bast hC hw 1 rfl (vp_in_nI hlt (by decide)) dX8_addBytes_59 (fun H locs hw => ?_)
      obtain ⟨f_50, ef_50⟩ : ∃ g, g = upd f ((nI n) : Int32).toNatClampNeg (vp_nar .byte x_49) := ⟨_, rfl⟩
      have hw : kW γ A [(h, .inr (8, [.ref hg, .int (nI n), .int t2, .int t3, .int t4, .int t5, .long t6, .ref t7])), (hg, .inl (γ.2.1 2, 1000, .inl f_50))] s H locs := by rw [ef_50]; exact hw
      refine lv_aload_n hx hb dX8_addBytes_60 rfl (lv_at hl 2 rfl) ?_
      refine lv_dup hx hb dX8_addBytes_61 rfl ?_
      refine fg_RX8_24 hC hw 0 rfl rfl dX8_addBytes_62 ?_
      refine lv_iconst (v := 1) hx hb dX8_addBytes_65 (by decide) ?_
      refine lv_iadd hx hb dX8_addBytes_66 ?_
      refine lv_topi (fun x_51 ex_51 => ?_)
      obtain rfl : x_51 = (nI (n + 1)) := ex_51.trans (nI_1 n)
      refine fs_RX8_24 hC hw 0 rfl rfl rfl (Nat.le_of_ble_eq_true rfl) dX8_addBytes_67 (fun H locs hw => ?_)
      have hw : kW γ A [(h, .inr (8, [.ref hg, .int (nI (n + 1)), .int t2, .int t3, .int t4, .int t5, .long t6, .ref t7])), (hg, .inl (γ.2.1 2, 1000, .inl f_50))] s H locs := hw
      refine lv_iinc (v := 32) (lv' := [(3, .int 32), (4, .int x_48), (0, .ref h), (1, .long v)]) hx hb dX8_addBytes_70 hl (k := 1) rfl (by decide) (by decide) rfl (fun ls hl => ?_)
      refine lv_goto (tgt := 3) hx hb dX8_addBytes_73 (by decide) ?_
      have hst : kst n (kby v 40) = (n + 1) := by rw [← hk]; exact (by first | exact kst_a c21 hlt | exact kst_b c28 c35 hlt | exact kst_full hfull | exact kst_lo c21 c28 | exact kst_hi c21 c35)
      have hup : kup f n (kby v 40) = f_50 := by rw [← hk, ef_50, nI_clamp (by omega), kok_byte (b := x_48) (by first | exact kok_a c21 | exact kok_b c28 c35) ex_49]; exact kup_y (by first | exact kok_a c21 | exact kok_b c28 c35) hlt
      exact ab_3 h hg t2 t3 t4 t5 t6 t7 v (n + 1) f_50 (by omega) F G (by have h9 : kad v 5 (kst n (kby v 40)) = F := hF; rw [hst] at h9; exact h9) (by have h9 : kfa v 5 (kst n (kby v 40)) (kup f n (kby v 40)) = G := hG; rw [hst, hup] at h9; exact h9) hC hr hlocks _ _ (kW.sub hw [0, 1] rfl rfl) _ (lv_sub hl [0, 2, 3] rfl)
  · refine lv_iload hx hb dX8_addBytes_24 (lv_at hl 0 rfl) ?_
    refine lv_bipush (v := 32) hx hb dX8_addBytes_26 (by decide) ?_
    refine lv_icmp_lt (tgt := 70) hx hb dX8_addBytes_28 (by decide) (fun c28 => ?_) (fun c28 => ?_)
    · refine lv_iinc (v := 32) (lv' := [(3, .int 32), (4, .int x_48), (0, .ref h), (1, .long v)]) hx hb dX8_addBytes_70 hl (k := 1) rfl (by decide) (by decide) rfl (fun ls hl => ?_)
      refine lv_goto (tgt := 3) hx hb dX8_addBytes_73 (by decide) ?_
      have hst : kst n (kby v 40) = n := by rw [← hk]; exact (by first | exact kst_a c21 hlt | exact kst_b c28 c35 hlt | exact kst_full hfull | exact kst_lo c21 c28 | exact kst_hi c21 c35)
      have hup : kup f n (kby v 40) = f := by rw [← hk]; exact (by first | exact kup_full hfull | exact kup_lo c21 c28 | exact kup_hi c21 c35)
      exact ab_3 h hg t2 t3 t4 t5 t6 t7 v n f (by omega) F G (by have h9 : kad v 5 (kst n (kby v 40)) = F := hF; rw [hst] at h9; exact h9) (by have h9 : kfa v 5 (kst n (kby v 40)) (kup f n (kby v 40)) = G := hG; rw [hst, hup] at h9; exact h9) hC hr hlocks _ _ (kW.sub hw [0, 1] rfl rfl) _ (lv_sub hl [0, 2, 3] rfl)
    · refine lv_iload hx hb dX8_addBytes_31 (lv_at hl 0 rfl) ?_
      refine lv_bipush (v := 126) hx hb dX8_addBytes_33 (by decide) ?_
      refine lv_icmp_gt (tgt := 70) hx hb dX8_addBytes_35 (by decide) (fun c35 => ?_) (fun c35 => ?_)
      · refine lv_iinc (v := 32) (lv' := [(3, .int 32), (4, .int x_48), (0, .ref h), (1, .long v)]) hx hb dX8_addBytes_70 hl (k := 1) rfl (by decide) (by decide) rfl (fun ls hl => ?_)
        refine lv_goto (tgt := 3) hx hb dX8_addBytes_73 (by decide) ?_
        have hst : kst n (kby v 40) = n := by rw [← hk]; exact (by first | exact kst_a c21 hlt | exact kst_b c28 c35 hlt | exact kst_full hfull | exact kst_lo c21 c28 | exact kst_hi c21 c35)
        have hup : kup f n (kby v 40) = f := by rw [← hk]; exact (by first | exact kup_full hfull | exact kup_lo c21 c28 | exact kup_hi c21 c35)
        exact ab_3 h hg t2 t3 t4 t5 t6 t7 v n f (by omega) F G (by have h9 : kad v 5 (kst n (kby v 40)) = F := hF; rw [hst] at h9; exact h9) (by have h9 : kfa v 5 (kst n (kby v 40)) (kup f n (kby v 40)) = G := hG; rw [hst, hup] at h9; exact h9) hC hr hlocks _ _ (kW.sub hw [0, 1] rfl rfl) _ (lv_sub hl [0, 2, 3] rfl)
      · refine lv_aload_n hx hb dX8_addBytes_38 rfl (lv_at hl 2 rfl) ?_
        refine fg_RX8_24 hC hw 0 rfl rfl dX8_addBytes_39 ?_
        refine lv_sipush (v := 1000) hx hb dX8_addBytes_42 (by decide) ?_
        refine lv_icmp_ge (tgt := 70) hx hb dX8_addBytes_45 (by decide) (fun c45 => ?_) (fun c45 => ?_)
        · have hfull : ¬ n < 1000 := fun h9 => absurd c45 (nI_ge h9 (by decide))
          refine lv_iinc (v := 32) (lv' := [(3, .int 32), (4, .int x_48), (0, .ref h), (1, .long v)]) hx hb dX8_addBytes_70 hl (k := 1) rfl (by decide) (by decide) rfl (fun ls hl => ?_)
          refine lv_goto (tgt := 3) hx hb dX8_addBytes_73 (by decide) ?_
          have hst : kst n (kby v 40) = n := by rw [← hk]; exact (by first | exact kst_a c21 hlt | exact kst_b c28 c35 hlt | exact kst_full hfull | exact kst_lo c21 c28 | exact kst_hi c21 c35)
          have hup : kup f n (kby v 40) = f := by rw [← hk]; exact (by first | exact kup_full hfull | exact kup_lo c21 c28 | exact kup_hi c21 c35)
          exact ab_3 h hg t2 t3 t4 t5 t6 t7 v n f (by omega) F G (by have h9 : kad v 5 (kst n (kby v 40)) = F := hF; rw [hst] at h9; exact h9) (by have h9 : kfa v 5 (kst n (kby v 40)) (kup f n (kby v 40)) = G := hG; rw [hst, hup] at h9; exact h9) hC hr hlocks _ _ (kW.sub hw [0, 1] rfl rfl) _ (lv_sub hl [0, 2, 3] rfl)
        · have hlt : n < 1000 := by rcases Nat.lt_or_ge n 1000 with h9 | h9; exact h9; exact absurd (nI_le h9 (by omega)) c45
          refine lv_aload_n hx hb dX8_addBytes_48 rfl (lv_at hl 2 rfl) ?_
          refine fg_RX8_9 hC hw 0 rfl rfl dX8_addBytes_49 ?_
          refine lv_aload_n hx hb dX8_addBytes_52 rfl (lv_at hl 2 rfl) ?_
          refine fg_RX8_24 hC hw 0 rfl rfl dX8_addBytes_53 ?_
          refine lv_iload hx hb dX8_addBytes_56 (lv_at hl 0 rfl) ?_
          refine lv_i2b hx hb dX8_addBytes_58 rfl ?_
          refine lv_topi (fun x_52 ex_52 => ?_)
          refine k_bast hC hw 1 rfl (vp_in_nI hlt (by decide)) dX8_addBytes_59 (fun H locs hw => ?_)
          obtain ⟨f_53, ef_53⟩ : ∃ g, g = upd f ((nI n) : Int32).toNatClampNeg (vp_nar .byte x_52) := ⟨_, rfl⟩
          have hw : kW γ A [(h, .inr (8, [.ref hg, .int (nI n), .int t2, .int t3, .int t4, .int t5, .long t6, .ref t7])), (hg, .inl (γ.2.1 2, 1000, .inl f_53))] s H locs := by rw [ef_53]; exact hw
          refine lv_aload_n hx hb dX8_addBytes_60 rfl (lv_at hl 2 rfl) ?_
          refine lv_dup hx hb dX8_addBytes_61 rfl ?_
          refine fg_RX8_24 hC hw 0 rfl rfl dX8_addBytes_62 ?_
          refine lv_iconst (v := 1) hx hb dX8_addBytes_65 (by decide) ?_
          refine lv_iadd hx hb dX8_addBytes_66 ?_
          refine lv_topi (fun x_54 ex_54 => ?_)
          obtain rfl : x_54 = (nI (n + 1)) := ex_54.trans (nI_1 n)
          refine fs_RX8_24 hC hw 0 rfl rfl rfl (Nat.le_of_ble_eq_true rfl) dX8_addBytes_67 (fun H locs hw => ?_)
          have hw : kW γ A [(h, .inr (8, [.ref hg, .int (nI (n + 1)), .int t2, .int t3, .int t4, .int t5, .long t6, .ref t7])), (hg, .inl (γ.2.1 2, 1000, .inl f_53))] s H locs := hw
          refine lv_iinc (v := 32) (lv' := [(3, .int 32), (4, .int x_48), (0, .ref h), (1, .long v)]) hx hb dX8_addBytes_70 hl (k := 1) rfl (by decide) (by decide) rfl (fun ls hl => ?_)
          refine lv_goto (tgt := 3) hx hb dX8_addBytes_73 (by decide) ?_
          have hst : kst n (kby v 40) = (n + 1) := by rw [← hk]; exact (by first | exact kst_a c21 hlt | exact kst_b c28 c35 hlt | exact kst_full hfull | exact kst_lo c21 c28 | exact kst_hi c21 c35)
          have hup : kup f n (kby v 40) = f_53 := by rw [← hk, ef_53, nI_clamp (by omega), kok_byte (b := x_48) (by first | exact kok_a c21 | exact kok_b c28 c35) ex_52]; exact kup_y (by first | exact kok_a c21 | exact kok_b c28 c35) hlt
          exact ab_3 h hg t2 t3 t4 t5 t6 t7 v (n + 1) f_53 (by omega) F G (by have h9 : kad v 5 (kst n (kby v 40)) = F := hF; rw [hst] at h9; exact h9) (by have h9 : kfa v 5 (kst n (kby v 40)) (kup f n (kby v 40)) = G := hG; rw [hst, hup] at h9; exact h9) hC hr hlocks _ _ (kW.sub hw [0, 1] rfl rfl) _ (lv_sub hl [0, 2, 3] rfl)

set_option maxHeartbeats 4000000 in
set_option maxRecDepth 100000 in
theorem ab_1 {γ : kΓ} {l : Launch} {p : Program} {e : Env} {s : State} {m : MethodId} {below : List Frame} {meth : Method} {c : Code} {A : Nat → Prop} (h : Nat) (hg : Nat) (t2 : Int32) (t3 : Int32) (t4 : Int32) (t5 : Int32) (t6 : Int64) (t7 : Nat) (v : Int64) (n : Nat) (f : Nat → Int32) (hn : n ≤ 1000) (F : Nat) (G : Nat → Int32) (hF : kad v 7 n = F) (hG : kfa v 7 n f = G) (hC : kC γ p s m [.ref h, .long v].toArray c cX8_addBytes 5 RX8 A) (hr : meth.sig.returnType = none) (hlocks : meth.locks = false) (H : Heap) (locs : List Loc) (hw : kW γ A [(h, .inr (8, [.ref hg, .int (nI n), .int t2, .int t3, .int t4, .int t5, .long t6, .ref t7])), (hg, .inl (γ.2.1 2, 1000, .inl f))] s H locs) (ls : Array Slot) (hl : lv_has ls 5 [(3, .int 48), (0, .ref h), (1, .long v)]) : W p l e ({ frames := 0, cells := 0, slots := 0, locals := 0 } : Room) s m [.ref h, .long v].toArray below meth c H locs 0 0 (MQ below (kQ γ A (fun r w1 => r = none ∧ w1 = [(h, .inr (8, [.ref hg, .int (nI F), .int t2, .int t3, .int t4, .int t5, .long t6, .ref t7])), (hg, .inl (γ.2.1 2, 1000, .inl G))])) [.ref h, .long v].toArray s 0 0 A) (F0 m 3 ls []) := by
  have hx := hC.1
  have hb := hC.2.1
  refine lv_iload_n hx hb dX8_addBytes_3 rfl (lv_at hl 0 rfl) ?_
  refine lv_if_lt (tgt := 76) hx hb dX8_addBytes_4 (by decide) (fun h => absurd h (by decide)) (fun _ => ?_)
  refine lv_lload_n hx hb dX8_addBytes_7 rfl (lv_at hl 2 rfl) ?_
  refine lv_iload_n hx hb dX8_addBytes_8 rfl (lv_at hl 0 rfl) ?_
  refine lv_lushr hx hb dX8_addBytes_9 rfl ?_
  refine lv_topl (fun x_55 ex_55 => ?_)
  refine lv_l2i hx hb dX8_addBytes_10 rfl ?_
  refine lv_topi (fun x_56 ex_56 => ?_)
  refine lv_sipush (v := 255) hx hb dX8_addBytes_11 (by decide) ?_
  refine lv_iand hx hb dX8_addBytes_14 ?_
  refine lv_topi (fun x_57 ex_57 => ?_)
  refine lv_istore (lv' := [(4, .int x_57), (3, .int 48), (0, .ref h), (1, .long v)]) hx hb dX8_addBytes_15 hl (by decide) rfl (fun ls hl => ?_)
  have hk : x_57 = kby v 48 := by rw [ex_57, ex_56, ex_55]; rfl
  refine lv_iload hx hb dX8_addBytes_17 (lv_at hl 0 rfl) ?_
  refine lv_bipush (v := 10) hx hb dX8_addBytes_19 (by decide) ?_
  refine lv_icmp_eq (tgt := 38) hx hb dX8_addBytes_21 (by decide) (fun c21 => ?_) (fun c21 => ?_)
  · refine lv_aload_n hx hb dX8_addBytes_38 rfl (lv_at hl 2 rfl) ?_
    refine fg_RX8_24 hC hw 0 rfl rfl dX8_addBytes_39 ?_
    refine lv_sipush (v := 1000) hx hb dX8_addBytes_42 (by decide) ?_
    refine lv_icmp_ge (tgt := 70) hx hb dX8_addBytes_45 (by decide) (fun c45 => ?_) (fun c45 => ?_)
    · have hfull : ¬ n < 1000 := fun h9 => absurd c45 (nI_ge h9 (by decide))
      refine lv_iinc (v := 40) (lv' := [(3, .int 40), (4, .int x_57), (0, .ref h), (1, .long v)]) hx hb dX8_addBytes_70 hl (k := 1) rfl (by decide) (by decide) rfl (fun ls hl => ?_)
      refine lv_goto (tgt := 3) hx hb dX8_addBytes_73 (by decide) ?_
      have hst : kst n (kby v 48) = n := by rw [← hk]; exact (by first | exact kst_a c21 hlt | exact kst_b c28 c35 hlt | exact kst_full hfull | exact kst_lo c21 c28 | exact kst_hi c21 c35)
      have hup : kup f n (kby v 48) = f := by rw [← hk]; exact (by first | exact kup_full hfull | exact kup_lo c21 c28 | exact kup_hi c21 c35)
      exact ab_2 h hg t2 t3 t4 t5 t6 t7 v n f (by omega) F G (by have h9 : kad v 6 (kst n (kby v 48)) = F := hF; rw [hst] at h9; exact h9) (by have h9 : kfa v 6 (kst n (kby v 48)) (kup f n (kby v 48)) = G := hG; rw [hst, hup] at h9; exact h9) hC hr hlocks _ _ (kW.sub hw [0, 1] rfl rfl) _ (lv_sub hl [0, 2, 3] rfl)
    · have hlt : n < 1000 := by rcases Nat.lt_or_ge n 1000 with h9 | h9; exact h9; exact absurd (nI_le h9 (by omega)) c45
      refine lv_aload_n hx hb dX8_addBytes_48 rfl (lv_at hl 2 rfl) ?_
      refine fg_RX8_9 hC hw 0 rfl rfl dX8_addBytes_49 ?_
      refine lv_aload_n hx hb dX8_addBytes_52 rfl (lv_at hl 2 rfl) ?_
      refine fg_RX8_24 hC hw 0 rfl rfl dX8_addBytes_53 ?_
      refine lv_iload hx hb dX8_addBytes_56 (lv_at hl 0 rfl) ?_
      refine lv_i2b hx hb dX8_addBytes_58 rfl ?_
      refine lv_topi (fun x_58 ex_58 => ?_)
      refine k_bast hC hw 1 rfl (vp_in_nI hlt (by decide)) dX8_addBytes_59 (fun H locs hw => ?_)
      obtain ⟨f_59, ef_59⟩ : ∃ g, g = upd f ((nI n) : Int32).toNatClampNeg (vp_nar .byte x_58) := ⟨_, rfl⟩
      have hw : kW γ A [(h, .inr (8, [.ref hg, .int (nI n), .int t2, .int t3, .int t4, .int t5, .long t6, .ref t7])), (hg, .inl (γ.2.1 2, 1000, .inl f_59))] s H locs := by rw [ef_59]; exact hw
      refine lv_aload_n hx hb dX8_addBytes_60 rfl (lv_at hl 2 rfl) ?_
      refine lv_dup hx hb dX8_addBytes_61 rfl ?_
      refine fg_RX8_24 hC hw 0 rfl rfl dX8_addBytes_62 ?_
      refine lv_iconst (v := 1) hx hb dX8_addBytes_65 (by decide) ?_
      refine lv_iadd hx hb dX8_addBytes_66 ?_
      refine lv_topi (fun x_60 ex_60 => ?_)
      obtain rfl : x_60 = (nI (n + 1)) := ex_60.trans (nI_1 n)
      refine fs_RX8_24 hC hw 0 rfl rfl rfl (Nat.le_of_ble_eq_true rfl) dX8_addBytes_67 (fun H locs hw => ?_)
      have hw : kW γ A [(h, .inr (8, [.ref hg, .int (nI (n + 1)), .int t2, .int t3, .int t4, .int t5, .long t6, .ref t7])), (hg, .inl (γ.2.1 2, 1000, .inl f_59))] s H locs := hw
      refine lv_iinc (v := 40) (lv' := [(3, .int 40), (4, .int x_57), (0, .ref h), (1, .long v)]) hx hb dX8_addBytes_70 hl (k := 1) rfl (by decide) (by decide) rfl (fun ls hl => ?_)
      refine lv_goto (tgt := 3) hx hb dX8_addBytes_73 (by decide) ?_
      have hst : kst n (kby v 48) = (n + 1) := by rw [← hk]; exact (by first | exact kst_a c21 hlt | exact kst_b c28 c35 hlt | exact kst_full hfull | exact kst_lo c21 c28 | exact kst_hi c21 c35)
      have hup : kup f n (kby v 48) = f_59 := by rw [← hk, ef_59, nI_clamp (by omega), kok_byte (b := x_57) (by first | exact kok_a c21 | exact kok_b c28 c35) ex_58]; exact kup_y (by first | exact kok_a c21 | exact kok_b c28 c35) hlt
      exact ab_2 h hg t2 t3 t4 t5 t6 t7 v (n + 1) f_59 (by omega) F G (by have h9 : kad v 6 (kst n (kby v 48)) = F := hF; rw [hst] at h9; exact h9) (by have h9 : kfa v 6 (kst n (kby v 48)) (kup f n (kby v 48)) = G := hG; rw [hst, hup] at h9; exact h9) hC hr hlocks _ _ (kW.sub hw [0, 1] rfl rfl) _ (lv_sub hl [0, 2, 3] rfl)
  · refine lv_iload hx hb dX8_addBytes_24 (lv_at hl 0 rfl) ?_
    refine lv_bipush (v := 32) hx hb dX8_addBytes_26 (by decide) ?_
    refine lv_icmp_lt (tgt := 70) hx hb dX8_addBytes_28 (by decide) (fun c28 => ?_) (fun c28 => ?_)
    · refine lv_iinc (v := 40) (lv' := [(3, .int 40), (4, .int x_57), (0, .ref h), (1, .long v)]) hx hb dX8_addBytes_70 hl (k := 1) rfl (by decide) (by decide) rfl (fun ls hl => ?_)
      refine lv_goto (tgt := 3) hx hb dX8_addBytes_73 (by decide) ?_
      have hst : kst n (kby v 48) = n := by rw [← hk]; exact (by first | exact kst_a c21 hlt | exact kst_b c28 c35 hlt | exact kst_full hfull | exact kst_lo c21 c28 | exact kst_hi c21 c35)
      have hup : kup f n (kby v 48) = f := by rw [← hk]; exact (by first | exact kup_full hfull | exact kup_lo c21 c28 | exact kup_hi c21 c35)
      exact ab_2 h hg t2 t3 t4 t5 t6 t7 v n f (by omega) F G (by have h9 : kad v 6 (kst n (kby v 48)) = F := hF; rw [hst] at h9; exact h9) (by have h9 : kfa v 6 (kst n (kby v 48)) (kup f n (kby v 48)) = G := hG; rw [hst, hup] at h9; exact h9) hC hr hlocks _ _ (kW.sub hw [0, 1] rfl rfl) _ (lv_sub hl [0, 2, 3] rfl)
    · refine lv_iload hx hb dX8_addBytes_31 (lv_at hl 0 rfl) ?_
      refine lv_bipush (v := 126) hx hb dX8_addBytes_33 (by decide) ?_
      refine lv_icmp_gt (tgt := 70) hx hb dX8_addBytes_35 (by decide) (fun c35 => ?_) (fun c35 => ?_)
      · refine lv_iinc (v := 40) (lv' := [(3, .int 40), (4, .int x_57), (0, .ref h), (1, .long v)]) hx hb dX8_addBytes_70 hl (k := 1) rfl (by decide) (by decide) rfl (fun ls hl => ?_)
        refine lv_goto (tgt := 3) hx hb dX8_addBytes_73 (by decide) ?_
        have hst : kst n (kby v 48) = n := by rw [← hk]; exact (by first | exact kst_a c21 hlt | exact kst_b c28 c35 hlt | exact kst_full hfull | exact kst_lo c21 c28 | exact kst_hi c21 c35)
        have hup : kup f n (kby v 48) = f := by rw [← hk]; exact (by first | exact kup_full hfull | exact kup_lo c21 c28 | exact kup_hi c21 c35)
        exact ab_2 h hg t2 t3 t4 t5 t6 t7 v n f (by omega) F G (by have h9 : kad v 6 (kst n (kby v 48)) = F := hF; rw [hst] at h9; exact h9) (by have h9 : kfa v 6 (kst n (kby v 48)) (kup f n (kby v 48)) = G := hG; rw [hst, hup] at h9; exact h9) hC hr hlocks _ _ (kW.sub hw [0, 1] rfl rfl) _ (lv_sub hl [0, 2, 3] rfl)
      · refine lv_aload_n hx hb dX8_addBytes_38 rfl (lv_at hl 2 rfl) ?_
        refine fg_RX8_24 hC hw 0 rfl rfl dX8_addBytes_39 ?_
        refine lv_sipush (v := 1000) hx hb dX8_addBytes_42 (by decide) ?_
        refine lv_icmp_ge (tgt := 70) hx hb dX8_addBytes_45 (by decide) (fun c45 => ?_) (fun c45 => ?_)
        · have hfull : ¬ n < 1000 := fun h9 => absurd c45 (nI_ge h9 (by decide))
          refine lv_iinc (v := 40) (lv' := [(3, .int 40), (4, .int x_57), (0, .ref h), (1, .long v)]) hx hb dX8_addBytes_70 hl (k := 1) rfl (by decide) (by decide) rfl (fun ls hl => ?_)
          refine lv_goto (tgt := 3) hx hb dX8_addBytes_73 (by decide) ?_
          have hst : kst n (kby v 48) = n := by rw [← hk]; exact (by first | exact kst_a c21 hlt | exact kst_b c28 c35 hlt | exact kst_full hfull | exact kst_lo c21 c28 | exact kst_hi c21 c35)
          have hup : kup f n (kby v 48) = f := by rw [← hk]; exact (by first | exact kup_full hfull | exact kup_lo c21 c28 | exact kup_hi c21 c35)
          exact ab_2 h hg t2 t3 t4 t5 t6 t7 v n f (by omega) F G (by have h9 : kad v 6 (kst n (kby v 48)) = F := hF; rw [hst] at h9; exact h9) (by have h9 : kfa v 6 (kst n (kby v 48)) (kup f n (kby v 48)) = G := hG; rw [hst, hup] at h9; exact h9) hC hr hlocks _ _ (kW.sub hw [0, 1] rfl rfl) _ (lv_sub hl [0, 2, 3] rfl)
        · have hlt : n < 1000 := by rcases Nat.lt_or_ge n 1000 with h9 | h9; exact h9; exact absurd (nI_le h9 (by omega)) c45
          refine lv_aload_n hx hb dX8_addBytes_48 rfl (lv_at hl 2 rfl) ?_
          refine fg_RX8_9 hC hw 0 rfl rfl dX8_addBytes_49 ?_
          refine lv_aload_n hx hb dX8_addBytes_52 rfl (lv_at hl 2 rfl) ?_
          refine fg_RX8_24 hC hw 0 rfl rfl dX8_addBytes_53 ?_
          refine lv_iload hx hb dX8_addBytes_56 (lv_at hl 0 rfl) ?_
          refine lv_i2b hx hb dX8_addBytes_58 rfl ?_
          refine lv_topi (fun x_61 ex_61 => ?_)
          refine k_bast hC hw 1 rfl (vp_in_nI hlt (by decide)) dX8_addBytes_59 (fun H locs hw => ?_)
          obtain ⟨f_62, ef_62⟩ : ∃ g, g = upd f ((nI n) : Int32).toNatClampNeg (vp_nar .byte x_61) := ⟨_, rfl⟩
          have hw : kW γ A [(h, .inr (8, [.ref hg, .int (nI n), .int t2, .int t3, .int t4, .int t5, .long t6, .ref t7])), (hg, .inl (γ.2.1 2, 1000, .inl f_62))] s H locs := by rw [ef_62]; exact hw
          refine lv_aload_n hx hb dX8_addBytes_60 rfl (lv_at hl 2 rfl) ?_
          refine lv_dup hx hb dX8_addBytes_61 rfl ?_
          refine fg_RX8_24 hC hw 0 rfl rfl dX8_addBytes_62 ?_
          refine lv_iconst (v := 1) hx hb dX8_addBytes_65 (by decide) ?_
          refine lv_iadd hx hb dX8_addBytes_66 ?_
          refine lv_topi (fun x_63 ex_63 => ?_)
          obtain rfl : x_63 = (nI (n + 1)) := ex_63.trans (nI_1 n)
          refine fs_RX8_24 hC hw 0 rfl rfl rfl (Nat.le_of_ble_eq_true rfl) dX8_addBytes_67 (fun H locs hw => ?_)
          have hw : kW γ A [(h, .inr (8, [.ref hg, .int (nI (n + 1)), .int t2, .int t3, .int t4, .int t5, .long t6, .ref t7])), (hg, .inl (γ.2.1 2, 1000, .inl f_62))] s H locs := hw
          refine lv_iinc (v := 40) (lv' := [(3, .int 40), (4, .int x_57), (0, .ref h), (1, .long v)]) hx hb dX8_addBytes_70 hl (k := 1) rfl (by decide) (by decide) rfl (fun ls hl => ?_)
          refine lv_goto (tgt := 3) hx hb dX8_addBytes_73 (by decide) ?_
          have hst : kst n (kby v 48) = (n + 1) := by rw [← hk]; exact (by first | exact kst_a c21 hlt | exact kst_b c28 c35 hlt | exact kst_full hfull | exact kst_lo c21 c28 | exact kst_hi c21 c35)
          have hup : kup f n (kby v 48) = f_62 := by rw [← hk, ef_62, nI_clamp (by omega), kok_byte (b := x_57) (by first | exact kok_a c21 | exact kok_b c28 c35) ex_61]; exact kup_y (by first | exact kok_a c21 | exact kok_b c28 c35) hlt
          exact ab_2 h hg t2 t3 t4 t5 t6 t7 v (n + 1) f_62 (by omega) F G (by have h9 : kad v 6 (kst n (kby v 48)) = F := hF; rw [hst] at h9; exact h9) (by have h9 : kfa v 6 (kst n (kby v 48)) (kup f n (kby v 48)) = G := hG; rw [hst, hup] at h9; exact h9) hC hr hlocks _ _ (kW.sub hw [0, 1] rfl rfl) _ (lv_sub hl [0, 2, 3] rfl)

set_option maxHeartbeats 4000000 in
set_option maxRecDepth 100000 in
theorem ab_0 {γ : kΓ} {l : Launch} {p : Program} {e : Env} {s : State} {m : MethodId} {below : List Frame} {meth : Method} {c : Code} {A : Nat → Prop} (h : Nat) (hg : Nat) (t2 : Int32) (t3 : Int32) (t4 : Int32) (t5 : Int32) (t6 : Int64) (t7 : Nat) (v : Int64) (n : Nat) (f : Nat → Int32) (hn : n ≤ 1000) (F : Nat) (G : Nat → Int32) (hF : kad v 8 n = F) (hG : kfa v 8 n f = G) (hC : kC γ p s m [.ref h, .long v].toArray c cX8_addBytes 5 RX8 A) (hr : meth.sig.returnType = none) (hlocks : meth.locks = false) (H : Heap) (locs : List Loc) (hw : kW γ A [(h, .inr (8, [.ref hg, .int (nI n), .int t2, .int t3, .int t4, .int t5, .long t6, .ref t7])), (hg, .inl (γ.2.1 2, 1000, .inl f))] s H locs) (ls : Array Slot) (hl : lv_has ls 5 [(3, .int 56), (0, .ref h), (1, .long v)]) : W p l e ({ frames := 0, cells := 0, slots := 0, locals := 0 } : Room) s m [.ref h, .long v].toArray below meth c H locs 0 0 (MQ below (kQ γ A (fun r w1 => r = none ∧ w1 = [(h, .inr (8, [.ref hg, .int (nI F), .int t2, .int t3, .int t4, .int t5, .long t6, .ref t7])), (hg, .inl (γ.2.1 2, 1000, .inl G))])) [.ref h, .long v].toArray s 0 0 A) (F0 m 3 ls []) := by
  have hx := hC.1
  have hb := hC.2.1
  refine lv_iload_n hx hb dX8_addBytes_3 rfl (lv_at hl 0 rfl) ?_
  refine lv_if_lt (tgt := 76) hx hb dX8_addBytes_4 (by decide) (fun h => absurd h (by decide)) (fun _ => ?_)
  refine lv_lload_n hx hb dX8_addBytes_7 rfl (lv_at hl 2 rfl) ?_
  refine lv_iload_n hx hb dX8_addBytes_8 rfl (lv_at hl 0 rfl) ?_
  refine lv_lushr hx hb dX8_addBytes_9 rfl ?_
  refine lv_topl (fun x_64 ex_64 => ?_)
  refine lv_l2i hx hb dX8_addBytes_10 rfl ?_
  refine lv_topi (fun x_65 ex_65 => ?_)
  refine lv_sipush (v := 255) hx hb dX8_addBytes_11 (by decide) ?_
  refine lv_iand hx hb dX8_addBytes_14 ?_
  refine lv_topi (fun x_66 ex_66 => ?_)
  refine lv_istore (lv' := [(4, .int x_66), (3, .int 56), (0, .ref h), (1, .long v)]) hx hb dX8_addBytes_15 hl (by decide) rfl (fun ls hl => ?_)
  have hk : x_66 = kby v 56 := by rw [ex_66, ex_65, ex_64]; rfl
  refine lv_iload hx hb dX8_addBytes_17 (lv_at hl 0 rfl) ?_
  refine lv_bipush (v := 10) hx hb dX8_addBytes_19 (by decide) ?_
  refine lv_icmp_eq (tgt := 38) hx hb dX8_addBytes_21 (by decide) (fun c21 => ?_) (fun c21 => ?_)
  · refine lv_aload_n hx hb dX8_addBytes_38 rfl (lv_at hl 2 rfl) ?_
    refine fg_RX8_24 hC hw 0 rfl rfl dX8_addBytes_39 ?_
    refine lv_sipush (v := 1000) hx hb dX8_addBytes_42 (by decide) ?_
    refine lv_icmp_ge (tgt := 70) hx hb dX8_addBytes_45 (by decide) (fun c45 => ?_) (fun c45 => ?_)
    · have hfull : ¬ n < 1000 := fun h9 => absurd c45 (nI_ge h9 (by decide))
      refine lv_iinc (v := 48) (lv' := [(3, .int 48), (4, .int x_66), (0, .ref h), (1, .long v)]) hx hb dX8_addBytes_70 hl (k := 1) rfl (by decide) (by decide) rfl (fun ls hl => ?_)
      refine lv_goto (tgt := 3) hx hb dX8_addBytes_73 (by decide) ?_
      have hst : kst n (kby v 56) = n := by rw [← hk]; exact (by first | exact kst_a c21 hlt | exact kst_b c28 c35 hlt | exact kst_full hfull | exact kst_lo c21 c28 | exact kst_hi c21 c35)
      have hup : kup f n (kby v 56) = f := by rw [← hk]; exact (by first | exact kup_full hfull | exact kup_lo c21 c28 | exact kup_hi c21 c35)
      exact ab_1 h hg t2 t3 t4 t5 t6 t7 v n f (by omega) F G (by have h9 : kad v 7 (kst n (kby v 56)) = F := hF; rw [hst] at h9; exact h9) (by have h9 : kfa v 7 (kst n (kby v 56)) (kup f n (kby v 56)) = G := hG; rw [hst, hup] at h9; exact h9) hC hr hlocks _ _ (kW.sub hw [0, 1] rfl rfl) _ (lv_sub hl [0, 2, 3] rfl)
    · have hlt : n < 1000 := by rcases Nat.lt_or_ge n 1000 with h9 | h9; exact h9; exact absurd (nI_le h9 (by omega)) c45
      refine lv_aload_n hx hb dX8_addBytes_48 rfl (lv_at hl 2 rfl) ?_
      refine fg_RX8_9 hC hw 0 rfl rfl dX8_addBytes_49 ?_
      refine lv_aload_n hx hb dX8_addBytes_52 rfl (lv_at hl 2 rfl) ?_
      refine fg_RX8_24 hC hw 0 rfl rfl dX8_addBytes_53 ?_
      refine lv_iload hx hb dX8_addBytes_56 (lv_at hl 0 rfl) ?_
      refine lv_i2b hx hb dX8_addBytes_58 rfl ?_
      refine lv_topi (fun x_67 ex_67 => ?_)
      refine k_bast hC hw 1 rfl (vp_in_nI hlt (by decide)) dX8_addBytes_59 (fun H locs hw => ?_)
      obtain ⟨f_68, ef_68⟩ : ∃ g, g = upd f ((nI n) : Int32).toNatClampNeg (vp_nar .byte x_67) := ⟨_, rfl⟩
      have hw : kW γ A [(h, .inr (8, [.ref hg, .int (nI n), .int t2, .int t3, .int t4, .int t5, .long t6, .ref t7])), (hg, .inl (γ.2.1 2, 1000, .inl f_68))] s H locs := by rw [ef_68]; exact hw
      refine lv_aload_n hx hb dX8_addBytes_60 rfl (lv_at hl 2 rfl) ?_
      refine lv_dup hx hb dX8_addBytes_61 rfl ?_
      refine fg_RX8_24 hC hw 0 rfl rfl dX8_addBytes_62 ?_
      refine lv_iconst (v := 1) hx hb dX8_addBytes_65 (by decide) ?_
      refine lv_iadd hx hb dX8_addBytes_66 ?_
      refine lv_topi (fun x_69 ex_69 => ?_)
      obtain rfl : x_69 = (nI (n + 1)) := ex_69.trans (nI_1 n)
      refine fs_RX8_24 hC hw 0 rfl rfl rfl (Nat.le_of_ble_eq_true rfl) dX8_addBytes_67 (fun H locs hw => ?_)
      have hw : kW γ A [(h, .inr (8, [.ref hg, .int (nI (n + 1)), .int t2, .int t3, .int t4, .int t5, .long t6, .ref t7])), (hg, .inl (γ.2.1 2, 1000, .inl f_68))] s H locs := hw
      refine lv_iinc (v := 48) (lv' := [(3, .int 48), (4, .int x_66), (0, .ref h), (1, .long v)]) hx hb dX8_addBytes_70 hl (k := 1) rfl (by decide) (by decide) rfl (fun ls hl => ?_)
      refine lv_goto (tgt := 3) hx hb dX8_addBytes_73 (by decide) ?_
      have hst : kst n (kby v 56) = (n + 1) := by rw [← hk]; exact (by first | exact kst_a c21 hlt | exact kst_b c28 c35 hlt | exact kst_full hfull | exact kst_lo c21 c28 | exact kst_hi c21 c35)
      have hup : kup f n (kby v 56) = f_68 := by rw [← hk, ef_68, nI_clamp (by omega), kok_byte (b := x_66) (by first | exact kok_a c21 | exact kok_b c28 c35) ex_67]; exact kup_y (by first | exact kok_a c21 | exact kok_b c28 c35) hlt
      exact ab_1 h hg t2 t3 t4 t5 t6 t7 v (n + 1) f_68 (by omega) F G (by have h9 : kad v 7 (kst n (kby v 56)) = F := hF; rw [hst] at h9; exact h9) (by have h9 : kfa v 7 (kst n (kby v 56)) (kup f n (kby v 56)) = G := hG; rw [hst, hup] at h9; exact h9) hC hr hlocks _ _ (kW.sub hw [0, 1] rfl rfl) _ (lv_sub hl [0, 2, 3] rfl)
  · refine lv_iload hx hb dX8_addBytes_24 (lv_at hl 0 rfl) ?_
    refine lv_bipush (v := 32) hx hb dX8_addBytes_26 (by decide) ?_
    refine lv_icmp_lt (tgt := 70) hx hb dX8_addBytes_28 (by decide) (fun c28 => ?_) (fun c28 => ?_)
    · refine lv_iinc (v := 48) (lv' := [(3, .int 48), (4, .int x_66), (0, .ref h), (1, .long v)]) hx hb dX8_addBytes_70 hl (k := 1) rfl (by decide) (by decide) rfl (fun ls hl => ?_)
      refine lv_goto (tgt := 3) hx hb dX8_addBytes_73 (by decide) ?_
      have hst : kst n (kby v 56) = n := by rw [← hk]; exact (by first | exact kst_a c21 hlt | exact kst_b c28 c35 hlt | exact kst_full hfull | exact kst_lo c21 c28 | exact kst_hi c21 c35)
      have hup : kup f n (kby v 56) = f := by rw [← hk]; exact (by first | exact kup_full hfull | exact kup_lo c21 c28 | exact kup_hi c21 c35)
      exact ab_1 h hg t2 t3 t4 t5 t6 t7 v n f (by omega) F G (by have h9 : kad v 7 (kst n (kby v 56)) = F := hF; rw [hst] at h9; exact h9) (by have h9 : kfa v 7 (kst n (kby v 56)) (kup f n (kby v 56)) = G := hG; rw [hst, hup] at h9; exact h9) hC hr hlocks _ _ (kW.sub hw [0, 1] rfl rfl) _ (lv_sub hl [0, 2, 3] rfl)
    · refine lv_iload hx hb dX8_addBytes_31 (lv_at hl 0 rfl) ?_
      refine lv_bipush (v := 126) hx hb dX8_addBytes_33 (by decide) ?_
      refine lv_icmp_gt (tgt := 70) hx hb dX8_addBytes_35 (by decide) (fun c35 => ?_) (fun c35 => ?_)
      · refine lv_iinc (v := 48) (lv' := [(3, .int 48), (4, .int x_66), (0, .ref h), (1, .long v)]) hx hb dX8_addBytes_70 hl (k := 1) rfl (by decide) (by decide) rfl (fun ls hl => ?_)
        refine lv_goto (tgt := 3) hx hb dX8_addBytes_73 (by decide) ?_
        have hst : kst n (kby v 56) = n := by rw [← hk]; exact (by first | exact kst_a c21 hlt | exact kst_b c28 c35 hlt | exact kst_full hfull | exact kst_lo c21 c28 | exact kst_hi c21 c35)
        have hup : kup f n (kby v 56) = f := by rw [← hk]; exact (by first | exact kup_full hfull | exact kup_lo c21 c28 | exact kup_hi c21 c35)
        exact ab_1 h hg t2 t3 t4 t5 t6 t7 v n f (by omega) F G (by have h9 : kad v 7 (kst n (kby v 56)) = F := hF; rw [hst] at h9; exact h9) (by have h9 : kfa v 7 (kst n (kby v 56)) (kup f n (kby v 56)) = G := hG; rw [hst, hup] at h9; exact h9) hC hr hlocks _ _ (kW.sub hw [0, 1] rfl rfl) _ (lv_sub hl [0, 2, 3] rfl)
      · refine lv_aload_n hx hb dX8_addBytes_38 rfl (lv_at hl 2 rfl) ?_
        refine fg_RX8_24 hC hw 0 rfl rfl dX8_addBytes_39 ?_
        refine lv_sipush (v := 1000) hx hb dX8_addBytes_42 (by decide) ?_
        refine lv_icmp_ge (tgt := 70) hx hb dX8_addBytes_45 (by decide) (fun c45 => ?_) (fun c45 => ?_)
        · have hfull : ¬ n < 1000 := fun h9 => absurd c45 (nI_ge h9 (by decide))
          refine lv_iinc (v := 48) (lv' := [(3, .int 48), (4, .int x_66), (0, .ref h), (1, .long v)]) hx hb dX8_addBytes_70 hl (k := 1) rfl (by decide) (by decide) rfl (fun ls hl => ?_)
          refine lv_goto (tgt := 3) hx hb dX8_addBytes_73 (by decide) ?_
          have hst : kst n (kby v 56) = n := by rw [← hk]; exact (by first | exact kst_a c21 hlt | exact kst_b c28 c35 hlt | exact kst_full hfull | exact kst_lo c21 c28 | exact kst_hi c21 c35)
          have hup : kup f n (kby v 56) = f := by rw [← hk]; exact (by first | exact kup_full hfull | exact kup_lo c21 c28 | exact kup_hi c21 c35)
          exact ab_1 h hg t2 t3 t4 t5 t6 t7 v n f (by omega) F G (by have h9 : kad v 7 (kst n (kby v 56)) = F := hF; rw [hst] at h9; exact h9) (by have h9 : kfa v 7 (kst n (kby v 56)) (kup f n (kby v 56)) = G := hG; rw [hst, hup] at h9; exact h9) hC hr hlocks _ _ (kW.sub hw [0, 1] rfl rfl) _ (lv_sub hl [0, 2, 3] rfl)
        · have hlt : n < 1000 := by rcases Nat.lt_or_ge n 1000 with h9 | h9; exact h9; exact absurd (nI_le h9 (by omega)) c45
          refine lv_aload_n hx hb dX8_addBytes_48 rfl (lv_at hl 2 rfl) ?_
          refine fg_RX8_9 hC hw 0 rfl rfl dX8_addBytes_49 ?_
          refine lv_aload_n hx hb dX8_addBytes_52 rfl (lv_at hl 2 rfl) ?_
          refine fg_RX8_24 hC hw 0 rfl rfl dX8_addBytes_53 ?_
          refine lv_iload hx hb dX8_addBytes_56 (lv_at hl 0 rfl) ?_
          refine lv_i2b hx hb dX8_addBytes_58 rfl ?_
          refine lv_topi (fun x_70 ex_70 => ?_)
          refine k_bast hC hw 1 rfl (vp_in_nI hlt (by decide)) dX8_addBytes_59 (fun H locs hw => ?_)
          obtain ⟨f_71, ef_71⟩ : ∃ g, g = upd f ((nI n) : Int32).toNatClampNeg (vp_nar .byte x_70) := ⟨_, rfl⟩
          have hw : kW γ A [(h, .inr (8, [.ref hg, .int (nI n), .int t2, .int t3, .int t4, .int t5, .long t6, .ref t7])), (hg, .inl (γ.2.1 2, 1000, .inl f_71))] s H locs := by rw [ef_71]; exact hw
          refine lv_aload_n hx hb dX8_addBytes_60 rfl (lv_at hl 2 rfl) ?_
          refine lv_dup hx hb dX8_addBytes_61 rfl ?_
          refine fg_RX8_24 hC hw 0 rfl rfl dX8_addBytes_62 ?_
          refine lv_iconst (v := 1) hx hb dX8_addBytes_65 (by decide) ?_
          refine lv_iadd hx hb dX8_addBytes_66 ?_
          refine lv_topi (fun x_72 ex_72 => ?_)
          obtain rfl : x_72 = (nI (n + 1)) := ex_72.trans (nI_1 n)
          refine fs_RX8_24 hC hw 0 rfl rfl rfl (Nat.le_of_ble_eq_true rfl) dX8_addBytes_67 (fun H locs hw => ?_)
          have hw : kW γ A [(h, .inr (8, [.ref hg, .int (nI (n + 1)), .int t2, .int t3, .int t4, .int t5, .long t6, .ref t7])), (hg, .inl (γ.2.1 2, 1000, .inl f_71))] s H locs := hw
          refine lv_iinc (v := 48) (lv' := [(3, .int 48), (4, .int x_66), (0, .ref h), (1, .long v)]) hx hb dX8_addBytes_70 hl (k := 1) rfl (by decide) (by decide) rfl (fun ls hl => ?_)
          refine lv_goto (tgt := 3) hx hb dX8_addBytes_73 (by decide) ?_
          have hst : kst n (kby v 56) = (n + 1) := by rw [← hk]; exact (by first | exact kst_a c21 hlt | exact kst_b c28 c35 hlt | exact kst_full hfull | exact kst_lo c21 c28 | exact kst_hi c21 c35)
          have hup : kup f n (kby v 56) = f_71 := by rw [← hk, ef_71, nI_clamp (by omega), kok_byte (b := x_66) (by first | exact kok_a c21 | exact kok_b c28 c35) ex_70]; exact kup_y (by first | exact kok_a c21 | exact kok_b c28 c35) hlt
          exact ab_1 h hg t2 t3 t4 t5 t6 t7 v (n + 1) f_71 (by omega) F G (by have h9 : kad v 7 (kst n (kby v 56)) = F := hF; rw [hst] at h9; exact h9) (by have h9 : kfa v 7 (kst n (kby v 56)) (kup f n (kby v 56)) = G := hG; rw [hst, hup] at h9; exact h9) hC hr hlocks _ _ (kW.sub hw [0, 1] rfl rfl) _ (lv_sub hl [0, 2, 3] rfl)

set_option maxHeartbeats 4000000 in
set_option maxRecDepth 100000 in
theorem c_X8_addBytes (γ : kΓ) (l : Launch) (h : Nat) (hg : Nat) (t2 : Int32) (t3 : Int32) (t4 : Int32) (t5 : Int32) (t6 : Int64) (t7 : Nat) (v : Int64) (n : Nat) (f : Nat → Int32) (hn : n ≤ 1000) : kM γ l yX8_addBytes cX8_addBytes 5 none ({ frames := 0, cells := 0, slots := 0, locals := 0 } : Room) [.ref h, .long v] [(h, .inr (8, [.ref hg, .int (nI n), .int t2, .int t3, .int t4, .int t5, .long t6, .ref t7])), (hg, .inl (γ.2.1 2, 1000, .inl f))] (fun r w1 => r = none ∧ w1 = [(h, .inr (8, [.ref hg, .int (nI (kad v 8 n)), .int t2, .int t3, .int t4, .int t5, .long t6, .ref t7])), (hg, .inl (γ.2.1 2, 1000, .inl ((kfa v 8 n f))))]) := by
  refine k_ofW (by decide) (Nat.le_of_ble_eq_true rfl) ?_
  intro p9 e s m below meth c A ls hC hr hlocks hname hw hl
  have hx := hC.1
  have hb := hC.2.1
  have hl : lv_has ls 5 [(0, .ref h), (1, .long v)] := hl
  refine lv_bipush (v := 56) hx hb dX8_addBytes_0 (by decide) ?_
  refine lv_istore_n (lv' := [(3, .int 56), (0, .ref h), (1, .long v)]) hx hb dX8_addBytes_2 rfl hl (by decide) rfl (fun ls hl => ?_)
  exact ab_0 h hg t2 t3 t4 t5 t6 t7 v n f hn _ _ rfl rfl hC hr hlocks _ _ (kW.sub hw [0, 1] rfl rfl) _ (lv_sub hl [0, 1, 2] rfl)

set_option maxHeartbeats 4000000 in
set_option maxRecDepth 100000 in
theorem c_X11_feed (γ : kΓ) (l : Launch) (x : Nat) (x0 : Nat) (x1 : Nat) (x2 : Nat) (x3 : Nat) (x4 : Nat) (x5 : Nat) (x6 : Nat) (x7 : Nat) (x8 : Nat) (x9 : Nat) (x10 : Nat) (x0g : Nat) (t2 : Int32) (t3 : Int32) (t4 : Int32) (t5 : Int32) (t6 : Int64) (t7 : Nat) (n : Nat) (f : Nat → Int32) (va : Int64) (vb : Int64) (vc : Int64) (hn : n ≤ 1000) : kM γ l yX11_feed cX11_feed 7 ((some .int)) ({ frames := 1, cells := 0, slots := 0, locals := 24 } : Room) [.ref x, .long va, .long vb, .long vc] [(x, .inr (10, [.ref x0, .ref x1, .ref x2, .ref x3, .ref x4, .ref x5, .ref x6, .ref x7, .ref x8, .ref x9, .ref x10])), (x0, .inr (8, [.ref x0g, .int (nI n), .int t2, .int t3, .int t4, .int t5, .long t6, .ref t7])), (x0g, .inl (γ.2.1 2, 1000, .inl f))] (fun r w1 => r = some (.int (nI (kad vc 8 (kad vb 8 (kad va 8 n))))) ∧ w1 = [(x, .inr (10, [.ref x0, .ref x1, .ref x2, .ref x3, .ref x4, .ref x5, .ref x6, .ref x7, .ref x8, .ref x9, .ref x10])), (x0, .inr (8, [.ref x0g, .int (nI (kad vc 8 (kad vb 8 (kad va 8 n)))), .int t2, .int t3, .int t4, .int t5, .long t6, .ref t7])), (x0g, .inl (γ.2.1 2, 1000, .inl ((kfa vc 8 (kad vb 8 (kad va 8 n)) (kfa vb 8 (kad va 8 n) (kfa va 8 n f))))))]) := by
  refine k_ofW (by decide) (Nat.le_of_ble_eq_true rfl) ?_
  intro p9 e s m below meth c A ls hC hr hlocks hname hw hl
  have hx := hC.1
  have hb := hC.2.1
  have hl : lv_has ls 7 [(0, .ref x), (1, .long va), (3, .long vb), (5, .long vc)] := hl
  refine lv_aload_n hx hb dX11_feed_0 rfl (lv_at hl 0 rfl) ?_
  refine fg_RX11_10 hC hw 0 rfl rfl dX11_feed_1 ?_
  refine lv_lload_n hx hb dX11_feed_4 rfl (lv_at hl 1 rfl) ?_
  refine k_V (wr := [(x, .inr (10, [.ref x0, .ref x1, .ref x2, .ref x3, .ref x4, .ref x5, .ref x6, .ref x7, .ref x8, .ref x9, .ref x10]))]) 1 gw_439 gw_440 gw_441 gw_2 gw_442 hd_X8_addBytes hC hw (c_X8_addBytes γ l x0 x0g t2 t3 t4 t5 t6 t7 va n f hn) ⟨by decide, by decide⟩ ⟨by decide, by decide⟩ hl.1 rfl 1 rfl rfl rfl (Nat.le_of_ble_eq_true rfl) [1, 2] [0] rfl rfl rfl rfl (by decide) dX11_feed_5 (fun r w1 H locs hq hw => ?_)
  obtain ⟨rfl, rfl⟩ := hq
  have hw : kW γ A [(x, .inr (10, [.ref x0, .ref x1, .ref x2, .ref x3, .ref x4, .ref x5, .ref x6, .ref x7, .ref x8, .ref x9, .ref x10])), (x0, .inr (8, [.ref x0g, .int (nI (kad va 8 n)), .int t2, .int t3, .int t4, .int t5, .long t6, .ref t7])), (x0g, .inl (γ.2.1 2, 1000, .inl ((kfa va 8 n f))))] s H locs := hw
  refine W.eq (g2 := F0 m 8 ls []) rfl ?_
  refine lv_aload_n hx hb dX11_feed_8 rfl (lv_at hl 0 rfl) ?_
  refine fg_RX11_10 hC hw 0 rfl rfl dX11_feed_9 ?_
  refine lv_lload_n hx hb dX11_feed_12 rfl (lv_at hl 2 rfl) ?_
  refine k_V (wr := [(x, .inr (10, [.ref x0, .ref x1, .ref x2, .ref x3, .ref x4, .ref x5, .ref x6, .ref x7, .ref x8, .ref x9, .ref x10]))]) 1 gw_439 gw_440 gw_441 gw_2 gw_442 hd_X8_addBytes hC hw (c_X8_addBytes γ l x0 x0g t2 t3 t4 t5 t6 t7 vb (kad va 8 n) (kfa va 8 n f) (kad_le va 8 n hn)) ⟨by decide, by decide⟩ ⟨by decide, by decide⟩ hl.1 rfl 1 rfl rfl rfl (Nat.le_of_ble_eq_true rfl) [1, 2] [0] rfl rfl rfl rfl (by decide) dX11_feed_13 (fun r w1 H locs hq hw => ?_)
  obtain ⟨rfl, rfl⟩ := hq
  have hw : kW γ A [(x, .inr (10, [.ref x0, .ref x1, .ref x2, .ref x3, .ref x4, .ref x5, .ref x6, .ref x7, .ref x8, .ref x9, .ref x10])), (x0, .inr (8, [.ref x0g, .int (nI (kad vb 8 (kad va 8 n))), .int t2, .int t3, .int t4, .int t5, .long t6, .ref t7])), (x0g, .inl (γ.2.1 2, 1000, .inl ((kfa vb 8 (kad va 8 n) (kfa va 8 n f)))))] s H locs := hw
  refine W.eq (g2 := F0 m 16 ls []) rfl ?_
  refine lv_aload_n hx hb dX11_feed_16 rfl (lv_at hl 0 rfl) ?_
  refine fg_RX11_10 hC hw 0 rfl rfl dX11_feed_17 ?_
  refine lv_lload hx hb dX11_feed_20 (lv_at hl 3 rfl) ?_
  refine k_V (wr := [(x, .inr (10, [.ref x0, .ref x1, .ref x2, .ref x3, .ref x4, .ref x5, .ref x6, .ref x7, .ref x8, .ref x9, .ref x10]))]) 1 gw_439 gw_440 gw_441 gw_2 gw_442 hd_X8_addBytes hC hw (c_X8_addBytes γ l x0 x0g t2 t3 t4 t5 t6 t7 vc (kad vb 8 (kad va 8 n)) (kfa vb 8 (kad va 8 n) (kfa va 8 n f)) (kad_le vb 8 _ (kad_le va 8 n hn))) ⟨by decide, by decide⟩ ⟨by decide, by decide⟩ hl.1 rfl 1 rfl rfl rfl (Nat.le_of_ble_eq_true rfl) [1, 2] [0] rfl rfl rfl rfl (by decide) dX11_feed_22 (fun r w1 H locs hq hw => ?_)
  obtain ⟨rfl, rfl⟩ := hq
  have hw : kW γ A [(x, .inr (10, [.ref x0, .ref x1, .ref x2, .ref x3, .ref x4, .ref x5, .ref x6, .ref x7, .ref x8, .ref x9, .ref x10])), (x0, .inr (8, [.ref x0g, .int (nI (kad vc 8 (kad vb 8 (kad va 8 n)))), .int t2, .int t3, .int t4, .int t5, .long t6, .ref t7])), (x0g, .inl (γ.2.1 2, 1000, .inl ((kfa vc 8 (kad vb 8 (kad va 8 n)) (kfa vb 8 (kad va 8 n) (kfa va 8 n f))))))] s H locs := hw
  refine W.eq (g2 := F0 m 25 ls []) rfl ?_
  refine lv_aload_n hx hb dX11_feed_25 rfl (lv_at hl 0 rfl) ?_
  refine fg_RX11_10 hC hw 0 rfl rfl dX11_feed_26 ?_
  refine fg_RX11_85 hC hw 1 rfl rfl dX11_feed_29 ?_
  exact k_iret hC hr hlocks hw [0, 1, 2] rfl rfl ⟨rfl, rfl⟩ (by decide) (by decide) dX11_feed_32


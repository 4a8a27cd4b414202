theorem dX8_addBytes_0 : decode cX8_addBytes 0 = .ok (.bipush 56, 2) := by decide +kernel
theorem dX8_addBytes_2 : decode cX8_addBytes 2 = .ok (.istore_n 3, 1) := by decide +kernel
theorem dX8_addBytes_3 : decode cX8_addBytes 3 = .ok (.iload_n 3, 1) := by decide +kernel
theorem dX8_addBytes_4 : decode cX8_addBytes 4 = .ok (.ifCond .lt 72, 3) := by decide +kernel
theorem dX8_addBytes_7 : decode cX8_addBytes 7 = .ok (.lload_n 1, 1) := by decide +kernel
theorem dX8_addBytes_8 : decode cX8_addBytes 8 = .ok (.iload_n 3, 1) := by decide +kernel
theorem dX8_addBytes_9 : decode cX8_addBytes 9 = .ok (.lushr, 1) := by decide +kernel
theorem dX8_addBytes_10 : decode cX8_addBytes 10 = .ok (.l2i, 1) := by decide +kernel
theorem dX8_addBytes_11 : decode cX8_addBytes 11 = .ok (.sipush 255, 3) := by decide +kernel
theorem dX8_addBytes_14 : decode cX8_addBytes 14 = .ok (.iand, 1) := by decide +kernel
theorem dX8_addBytes_15 : decode cX8_addBytes 15 = .ok (.istore 4, 2) := by decide +kernel
theorem dX8_addBytes_17 : decode cX8_addBytes 17 = .ok (.iload 4, 2) := by decide +kernel
theorem dX8_addBytes_19 : decode cX8_addBytes 19 = .ok (.bipush 10, 2) := by decide +kernel
theorem dX8_addBytes_21 : decode cX8_addBytes 21 = .ok (.if_icmp .eq 17, 3) := by decide +kernel
theorem dX8_addBytes_24 : decode cX8_addBytes 24 = .ok (.iload 4, 2) := by decide +kernel
theorem dX8_addBytes_26 : decode cX8_addBytes 26 = .ok (.bipush 32, 2) := by decide +kernel
theorem dX8_addBytes_28 : decode cX8_addBytes 28 = .ok (.if_icmp .lt 42, 3) := by decide +kernel
theorem dX8_addBytes_31 : decode cX8_addBytes 31 = .ok (.iload 4, 2) := by decide +kernel
theorem dX8_addBytes_33 : decode cX8_addBytes 33 = .ok (.bipush 126, 2) := by decide +kernel
theorem dX8_addBytes_35 : decode cX8_addBytes 35 = .ok (.if_icmp .gt 35, 3) := by decide +kernel
theorem dX8_addBytes_38 : decode cX8_addBytes 38 = .ok (.aload_n 0, 1) := by decide +kernel
theorem dX8_addBytes_39 : decode cX8_addBytes 39 = .ok (.getfield 24, 3) := by decide +kernel
theorem dX8_addBytes_42 : decode cX8_addBytes 42 = .ok (.sipush 1000, 3) := by decide +kernel
theorem dX8_addBytes_45 : decode cX8_addBytes 45 = .ok (.if_icmp .ge 25, 3) := by decide +kernel
theorem dX8_addBytes_48 : decode cX8_addBytes 48 = .ok (.aload_n 0, 1) := by decide +kernel
theorem dX8_addBytes_49 : decode cX8_addBytes 49 = .ok (.getfield 9, 3) := by decide +kernel
theorem dX8_addBytes_52 : decode cX8_addBytes 52 = .ok (.aload_n 0, 1) := by decide +kernel
theorem dX8_addBytes_53 : decode cX8_addBytes 53 = .ok (.getfield 24, 3) := by decide +kernel
theorem dX8_addBytes_56 : decode cX8_addBytes 56 = .ok (.iload 4, 2) := by decide +kernel
theorem dX8_addBytes_58 : decode cX8_addBytes 58 = .ok (.i2b, 1) := by decide +kernel
theorem dX8_addBytes_59 : decode cX8_addBytes 59 = .ok (.bastore, 1) := by decide +kernel
theorem dX8_addBytes_60 : decode cX8_addBytes 60 = .ok (.aload_n 0, 1) := by decide +kernel
theorem dX8_addBytes_61 : decode cX8_addBytes 61 = .ok (.dup, 1) := by decide +kernel
theorem dX8_addBytes_62 : decode cX8_addBytes 62 = .ok (.getfield 24, 3) := by decide +kernel
theorem dX8_addBytes_65 : decode cX8_addBytes 65 = .ok (.iconst 1, 1) := by decide +kernel
theorem dX8_addBytes_66 : decode cX8_addBytes 66 = .ok (.iadd, 1) := by decide +kernel
theorem dX8_addBytes_67 : decode cX8_addBytes 67 = .ok (.putfield 24, 3) := by decide +kernel
theorem dX8_addBytes_70 : decode cX8_addBytes 70 = .ok (.iinc 3 (-8), 3) := by decide +kernel
theorem dX8_addBytes_73 : decode cX8_addBytes 73 = .ok (.goto (-70), 3) := by decide +kernel
theorem dX8_addBytes_76 : decode cX8_addBytes 76 = .ok (.return_, 1) := by decide +kernel
theorem dX11_feed_0 : decode cX11_feed 0 = .ok (.aload_n 0, 1) := by decide +kernel
theorem dX11_feed_1 : decode cX11_feed 1 = .ok (.getfield 10, 3) := by decide +kernel
theorem dX11_feed_4 : decode cX11_feed 4 = .ok (.lload_n 1, 1) := by decide +kernel
theorem dX11_feed_5 : decode cX11_feed 5 = .ok (.invokevirtual 81, 3) := by decide +kernel
theorem dX11_feed_8 : decode cX11_feed 8 = .ok (.aload_n 0, 1) := by decide +kernel
theorem dX11_feed_9 : decode cX11_feed 9 = .ok (.getfield 10, 3) := by decide +kernel
theorem dX11_feed_12 : decode cX11_feed 12 = .ok (.lload_n 3, 1) := by decide +kernel
theorem dX11_feed_13 : decode cX11_feed 13 = .ok (.invokevirtual 81, 3) := by decide +kernel
theorem dX11_feed_16 : decode cX11_feed 16 = .ok (.aload_n 0, 1) := by decide +kernel
theorem dX11_feed_17 : decode cX11_feed 17 = .ok (.getfield 10, 3) := by decide +kernel
theorem dX11_feed_20 : decode cX11_feed 20 = .ok (.lload 5, 2) := by decide +kernel
theorem dX11_feed_22 : decode cX11_feed 22 = .ok (.invokevirtual 81, 3) := by decide +kernel
theorem dX11_feed_25 : decode cX11_feed 25 = .ok (.aload_n 0, 1) := by decide +kernel
theorem dX11_feed_26 : decode cX11_feed 26 = .ok (.getfield 10, 3) := by decide +kernel
theorem dX11_feed_29 : decode cX11_feed 29 = .ok (.getfield 85, 3) := by decide +kernel
theorem dX11_feed_32 : decode cX11_feed 32 = .ok (.ireturn, 1) := by decide +kernel
def kok (b : Int32) : Bool := decide (b = 10) || (decide (¬ b < 32) && decide (¬ 126 < b))
def kst (n : Nat) (b : Int32) : Nat := if kok b = true ∧ n < 1000 then n + 1 else n
def kby (v : Int64) (S : Int32) : Int32 := (v.toUInt64 >>> (S.toInt64.toUInt64 &&& Int64.toUInt64 63)).toInt64.toInt32 &&& 255
def kad (v : Int64) : Nat → Nat → Nat
  | 0, n => n
  | j + 1, n => kad v j (kst n (kby v (nI (8 * j))))
theorem kst_a {n : Nat} {b : Int32} (h : b = 10) (hn : n < 1000) : kst n b = n + 1 := by
  unfold kst kok; rw [if_pos ⟨by rw [h]; decide, hn⟩]
theorem kst_b {n : Nat} {b : Int32} (h1 : ¬ b < 32) (h2 : ¬ 126 < b) (hn : n < 1000) : kst n b = n + 1 := by
  unfold kst kok; rw [if_pos ⟨by simp [h1, h2], hn⟩]
theorem kst_full {n : Nat} {b : Int32} (hn : ¬ n < 1000) : kst n b = n := by
  unfold kst; rw [if_neg (fun h => hn h.2)]
theorem kst_lo {n : Nat} {b : Int32} (h0 : ¬ b = 10) (h : b < 32) : kst n b = n := by
  unfold kst kok; rw [if_neg (fun h9 => by simp [h0, h] at h9)]
theorem kst_hi {n : Nat} {b : Int32} (h0 : ¬ b = 10) (h : 126 < b) : kst n b = n := by
  unfold kst kok; rw [if_neg (fun h9 => by simp [h0, h] at h9)]
theorem kst_le {n : Nat} {b : Int32} (h : n ≤ 1000) : kst n b ≤ 1000 := by
  unfold kst; split <;> omega
theorem kad_le (v : Int64) : ∀ (j n : Nat), n ≤ 1000 → kad v j n ≤ 1000
  | 0, _, h => h
  | j + 1, n, h => kad_le v j _ (kst_le h)
theorem k_land (x : Int64) : (x &&& 255).toInt32 = x.toInt32 &&& 255 := by
  rw [Int64.toInt32_and]; rfl

set_option maxHeartbeats 4000000 in
set_option maxRecDepth 100000 in
theorem ab_8 {γ : kΓ} {l : Launch} {p : Program} {e : Env} {s : State} {m : MethodId} {below : List Frame} {meth : Method} {c : Code} {A : Nat → Prop} (h : Nat) (hg : Nat) (t2 : Int32) (t3 : Int32) (t4 : Int32) (t5 : Int32) (t6 : Int64) (t7 : Nat) (v : Int64) (n : Nat) (f : Nat → Int32) (hn : n ≤ 1000) (F : Nat) (hF : kad v 0 n = F) (hC : kC γ p s m [.ref h, .long v].toArray c cX8_addBytes 5 RX8 A) (hr : meth.sig.returnType = none) (hlocks : meth.locks = false) (H : Heap) (locs : List Loc) (hw : kW γ A [(h, .inr (8, [.ref hg, .int (nI n), .int t2, .int t3, .int t4, .int t5, .long t6, .ref t7])), (hg, .inl (γ.2.1 2, 1000, .inl f))] s H locs) (ls : Array Slot) (hl : lv_has ls 5 [(3, .int (-8)), (0, .ref h), (1, .long v)]) : W p l e ({ frames := 0, cells := 0, slots := 0, locals := 0 } : Room) s m [.ref h, .long v].toArray below meth c H locs 0 0 (MQ below (kQ γ A (fun r w1 => ∃ (f9 : Nat → Int32), r = none ∧ w1 = [(h, .inr (8, [.ref hg, .int (nI F), .int t2, .int t3, .int t4, .int t5, .long t6, .ref t7])), (hg, .inl (γ.2.1 2, 1000, .inl f9))])) [.ref h, .long v].toArray s 0 0 A) (F0 m 3 ls []) := by
  have hx := hC.1
  have hb := hC.2.1
  have hF9 : n = F := hF
  subst hF9
  refine lv_iload_n hx hb dX8_addBytes_3 rfl (lv_at hl 0 rfl) ?_
  refine lv_if_lt (tgt := 76) hx hb dX8_addBytes_4 (by decide) (fun _ => ?_) (fun h => absurd (by decide) h)
  exact k_vret hC hr hlocks hw [0, 1] rfl rfl ⟨f, rfl, rfl⟩ (by decide) (by decide) dX8_addBytes_76

set_option maxHeartbeats 4000000 in
set_option maxRecDepth 100000 in
theorem ab_7 {γ : kΓ} {l : Launch} {p : Program} {e : Env} {s : State} {m : MethodId} {below : List Frame} {meth : Method} {c : Code} {A : Nat → Prop} (h : Nat) (hg : Nat) (t2 : Int32) (t3 : Int32) (t4 : Int32) (t5 : Int32) (t6 : Int64) (t7 : Nat) (v : Int64) (n : Nat) (f : Nat → Int32) (hn : n ≤ 1000) (F : Nat) (hF : kad v 1 n = F) (hC : kC γ p s m [.ref h, .long v].toArray c cX8_addBytes 5 RX8 A) (hr : meth.sig.returnType = none) (hlocks : meth.locks = false) (H : Heap) (locs : List Loc) (hw : kW γ A [(h, .inr (8, [.ref hg, .int (nI n), .int t2, .int t3, .int t4, .int t5, .long t6, .ref t7])), (hg, .inl (γ.2.1 2, 1000, .inl f))] s H locs) (ls : Array Slot) (hl : lv_has ls 5 [(3, .int 0), (0, .ref h), (1, .long v)]) : W p l e ({ frames := 0, cells := 0, slots := 0, locals := 0 } : Room) s m [.ref h, .long v].toArray below meth c H locs 0 0 (MQ below (kQ γ A (fun r w1 => ∃ (f9 : Nat → Int32), r = none ∧ w1 = [(h, .inr (8, [.ref hg, .int (nI F), .int t2, .int t3, .int t4, .int t5, .long t6, .ref t7])), (hg, .inl (γ.2.1 2, 1000, .inl f9))])) [.ref h, .long v].toArray s 0 0 A) (F0 m 3 ls []) := by
  have hx := hC.1
  have hb := hC.2.1
  refine lv_iload_n hx hb dX8_addBytes_3 rfl (lv_at hl 0 rfl) ?_
  refine lv_if_lt (tgt := 76) hx hb dX8_addBytes_4 (by decide) (fun h => absurd h (by decide)) (fun _ => ?_)
  refine lv_lload_n hx hb dX8_addBytes_7 rfl (lv_at hl 2 rfl) ?_
  refine lv_iload_n hx hb dX8_addBytes_8 rfl (lv_at hl 0 rfl) ?_
  refine lv_lushr hx hb dX8_addBytes_9 rfl ?_
  refine lv_topl (fun x_974 ex_974 => ?_)
  refine lv_l2i hx hb dX8_addBytes_10 rfl ?_
  refine lv_topi (fun x_975 ex_975 => ?_)
  refine lv_sipush (v := 255) hx hb dX8_addBytes_11 (by decide) ?_
  refine lv_iand hx hb dX8_addBytes_14 ?_
  refine lv_topi (fun x_976 ex_976 => ?_)
  refine lv_istore (lv' := [(4, .int x_976), (3, .int 0), (0, .ref h), (1, .long v)]) hx hb dX8_addBytes_15 hl (by decide) rfl (fun ls hl => ?_)
  have hk : x_976 = kby v 0 := by rw [ex_976, ex_975, ex_974]; rfl
  refine lv_iload hx hb dX8_addBytes_17 (lv_at hl 0 rfl) ?_
  refine lv_bipush (v := 10) hx hb dX8_addBytes_19 (by decide) ?_
  refine lv_icmp_eq (tgt := 38) hx hb dX8_addBytes_21 (by decide) (fun c21 => ?_) (fun c21 => ?_)
  · refine lv_aload_n hx hb dX8_addBytes_38 rfl (lv_at hl 2 rfl) ?_
    refine fg_RX8_24 hC hw 0 rfl rfl dX8_addBytes_39 ?_
    refine lv_sipush (v := 1000) hx hb dX8_addBytes_42 (by decide) ?_
    refine lv_icmp_ge (tgt := 70) hx hb dX8_addBytes_45 (by decide) (fun c45 => ?_) (fun c45 => ?_)
    · have hfull : ¬ n < 1000 := fun h9 => absurd c45 (nI_ge h9 (by decide))
      refine lv_iinc (v := (-8)) (lv' := [(3, .int (-8)), (4, .int x_976), (0, .ref h), (1, .long v)]) hx hb dX8_addBytes_70 hl (k := 1) rfl (by decide) (by decide) rfl (fun ls hl => ?_)
      refine lv_goto (tgt := 3) hx hb dX8_addBytes_73 (by decide) ?_
      have hst : kst n (kby v 0) = n := by rw [← hk]; exact (by first | exact kst_a c21 hlt | exact kst_b c28 c35 hlt | exact kst_full hfull | exact kst_lo c21 c28 | exact kst_hi c21 c35)
      exact ab_8 h hg t2 t3 t4 t5 t6 t7 v n f (by omega) F (by have h9 : kad v 0 (kst n (kby v 0)) = F := hF; rw [hst] at h9; exact h9)  hC hr hlocks _ _ (kW.sub hw [0, 1] rfl rfl) _ (lv_sub hl [0, 2, 3] rfl)
    · have hlt : n < 1000 := by rcases Nat.lt_or_ge n 1000 with h9 | h9; exact h9; exact absurd (nI_le h9 (by omega)) c45
      refine lv_aload_n hx hb dX8_addBytes_48 rfl (lv_at hl 2 rfl) ?_
      refine fg_RX8_9 hC hw 0 rfl rfl dX8_addBytes_49 ?_
      refine lv_aload_n hx hb dX8_addBytes_52 rfl (lv_at hl 2 rfl) ?_
      refine fg_RX8_24 hC hw 0 rfl rfl dX8_addBytes_53 ?_
      refine lv_iload hx hb dX8_addBytes_56 (lv_at hl 0 rfl) ?_
      refine lv_i2b hx hb dX8_addBytes_58 rfl ?_
      refine lv_topi (fun x_977 ex_977 => ?_)
      refine k_bast hC hw 1 rfl (vp_in_nI hlt (by decide)) dX8_addBytes_59 (fun H locs hw => ?_)
      obtain ⟨f_978, ef_978⟩ : ∃ g, g = upd f ((nI n) : Int32).toNatClampNeg (vp_nar .byte x_977) := ⟨_, rfl⟩
      have hw : kW γ A [(h, .inr (8, [.ref hg, .int (nI n), .int t2, .int t3, .int t4, .int t5, .long t6, .ref t7])), (hg, .inl (γ.2.1 2, 1000, .inl f_978))] s H locs := by rw [ef_978]; exact hw
      refine lv_aload_n hx hb dX8_addBytes_60 rfl (lv_at hl 2 rfl) ?_
      refine lv_dup hx hb dX8_addBytes_61 rfl ?_
      refine fg_RX8_24 hC hw 0 rfl rfl dX8_addBytes_62 ?_
      refine lv_iconst (v := 1) hx hb dX8_addBytes_65 (by decide) ?_
      refine lv_iadd hx hb dX8_addBytes_66 ?_
      refine lv_topi (fun x_979 ex_979 => ?_)
      obtain rfl : x_979 = (nI (n + 1)) := ex_979.trans (nI_1 n)
      refine fs_RX8_24 hC hw 0 rfl rfl rfl (Nat.le_of_ble_eq_true rfl) dX8_addBytes_67 (fun H locs hw => ?_)
      have hw : kW γ A [(h, .inr (8, [.ref hg, .int (nI (n + 1)), .int t2, .int t3, .int t4, .int t5, .long t6, .ref t7])), (hg, .inl (γ.2.1 2, 1000, .inl f_978))] s H locs := hw
      refine lv_iinc (v := (-8)) (lv' := [(3, .int (-8)), (4, .int x_976), (0, .ref h), (1, .long v)]) hx hb dX8_addBytes_70 hl (k := 1) rfl (by decide) (by decide) rfl (fun ls hl => ?_)
      refine lv_goto (tgt := 3) hx hb dX8_addBytes_73 (by decide) ?_
      have hst : kst n (kby v 0) = (n + 1) := by rw [← hk]; exact (by first | exact kst_a c21 hlt | exact kst_b c28 c35 hlt | exact kst_full hfull | exact kst_lo c21 c28 | exact kst_hi c21 c35)
      exact ab_8 h hg t2 t3 t4 t5 t6 t7 v (n + 1) f_978 (by omega) F (by have h9 : kad v 0 (kst n (kby v 0)) = F := hF; rw [hst] at h9; exact h9)  hC hr hlocks _ _ (kW.sub hw [0, 1] rfl rfl) _ (lv_sub hl [0, 2, 3] rfl)
  · refine lv_iload hx hb dX8_addBytes_24 (lv_at hl 0 rfl) ?_
    refine lv_bipush (v := 32) hx hb dX8_addBytes_26 (by decide) ?_
    refine lv_icmp_lt (tgt := 70) hx hb dX8_addBytes_28 (by decide) (fun c28 => ?_) (fun c28 => ?_)
    · refine lv_iinc (v := (-8)) (lv' := [(3, .int (-8)), (4, .int x_976), (0, .ref h), (1, .long v)]) hx hb dX8_addBytes_70 hl (k := 1) rfl (by decide) (by decide) rfl (fun ls hl => ?_)
      refine lv_goto (tgt := 3) hx hb dX8_addBytes_73 (by decide) ?_
      have hst : kst n (kby v 0) = n := by rw [← hk]; exact (by first | exact kst_a c21 hlt | exact kst_b c28 c35 hlt | exact kst_full hfull | exact kst_lo c21 c28 | exact kst_hi c21 c35)
      exact ab_8 h hg t2 t3 t4 t5 t6 t7 v n f (by omega) F (by have h9 : kad v 0 (kst n (kby v 0)) = F := hF; rw [hst] at h9; exact h9)  hC hr hlocks _ _ (kW.sub hw [0, 1] rfl rfl) _ (lv_sub hl [0, 2, 3] rfl)
    · refine lv_iload hx hb dX8_addBytes_31 (lv_at hl 0 rfl) ?_
      refine lv_bipush (v := 126) hx hb dX8_addBytes_33 (by decide) ?_
      refine lv_icmp_gt (tgt := 70) hx hb dX8_addBytes_35 (by decide) (fun c35 => ?_) (fun c35 => ?_)
      · refine lv_iinc (v := (-8)) (lv' := [(3, .int (-8)), (4, .int x_976), (0, .ref h), (1, .long v)]) hx hb dX8_addBytes_70 hl (k := 1) rfl (by decide) (by decide) rfl (fun ls hl => ?_)
        refine lv_goto (tgt := 3) hx hb dX8_addBytes_73 (by decide) ?_
        have hst : kst n (kby v 0) = n := by rw [← hk]; exact (by first | exact kst_a c21 hlt | exact kst_b c28 c35 hlt | exact kst_full hfull | exact kst_lo c21 c28 | exact kst_hi c21 c35)
        exact ab_8 h hg t2 t3 t4 t5 t6 t7 v n f (by omega) F (by have h9 : kad v 0 (kst n (kby v 0)) = F := hF; rw [hst] at h9; exact h9)  hC hr hlocks _ _ (kW.sub hw [0, 1] rfl rfl) _ (lv_sub hl [0, 2, 3] rfl)
      · refine lv_aload_n hx hb dX8_addBytes_38 rfl (lv_at hl 2 rfl) ?_
        refine fg_RX8_24 hC hw 0 rfl rfl dX8_addBytes_39 ?_
        refine lv_sipush (v := 1000) hx hb dX8_addBytes_42 (by decide) ?_
        refine lv_icmp_ge (tgt := 70) hx hb dX8_addBytes_45 (by decide) (fun c45 => ?_) (fun c45 => ?_)
        · have hfull : ¬ n < 1000 := fun h9 => absurd c45 (nI_ge h9 (by decide))
          refine lv_iinc (v := (-8)) (lv' := [(3, .int (-8)), (4, .int x_976), (0, .ref h), (1, .long v)]) hx hb dX8_addBytes_70 hl (k := 1) rfl (by decide) (by decide) rfl (fun ls hl => ?_)
          refine lv_goto (tgt := 3) hx hb dX8_addBytes_73 (by decide) ?_
          have hst : kst n (kby v 0) = n := by rw [← hk]; exact (by first | exact kst_a c21 hlt | exact kst_b c28 c35 hlt | exact kst_full hfull | exact kst_lo c21 c28 | exact kst_hi c21 c35)
          exact ab_8 h hg t2 t3 t4 t5 t6 t7 v n f (by omega) F (by have h9 : kad v 0 (kst n (kby v 0)) = F := hF; rw [hst] at h9; exact h9)  hC hr hlocks _ _ (kW.sub hw [0, 1] rfl rfl) _ (lv_sub hl [0, 2, 3] rfl)
        · have hlt : n < 1000 := by rcases Nat.lt_or_ge n 1000 with h9 | h9; exact h9; exact absurd (nI_le h9 (by omega)) c45
          refine lv_aload_n hx hb dX8_addBytes_48 rfl (lv_at hl 2 rfl) ?_
          refine fg_RX8_9 hC hw 0 rfl rfl dX8_addBytes_49 ?_
          refine lv_aload_n hx hb dX8_addBytes_52 rfl (lv_at hl 2 rfl) ?_
          refine fg_RX8_24 hC hw 0 rfl rfl dX8_addBytes_53 ?_
          refine lv_iload hx hb dX8_addBytes_56 (lv_at hl 0 rfl) ?_
          refine lv_i2b hx hb dX8_addBytes_58 rfl ?_
          refine lv_topi (fun x_980 ex_980 => ?_)
          refine k_bast hC hw 1 rfl (vp_in_nI hlt (by decide)) dX8_addBytes_59 (fun H locs hw => ?_)
          obtain ⟨f_981, ef_981⟩ : ∃ g, g = upd f ((nI n) : Int32).toNatClampNeg (vp_nar .byte x_980) := ⟨_, rfl⟩
          have hw : kW γ A [(h, .inr (8, [.ref hg, .int (nI n), .int t2, .int t3, .int t4, .int t5, .long t6, .ref t7])), (hg, .inl (γ.2.1 2, 1000, .inl f_981))] s H locs := by rw [ef_981]; exact hw
          refine lv_aload_n hx hb dX8_addBytes_60 rfl (lv_at hl 2 rfl) ?_
          refine lv_dup hx hb dX8_addBytes_61 rfl ?_
          refine fg_RX8_24 hC hw 0 rfl rfl dX8_addBytes_62 ?_
          refine lv_iconst (v := 1) hx hb dX8_addBytes_65 (by decide) ?_
          refine lv_iadd hx hb dX8_addBytes_66 ?_
          refine lv_topi (fun x_982 ex_982 => ?_)
          obtain rfl : x_982 = (nI (n + 1)) := ex_982.trans (nI_1 n)
          refine fs_RX8_24 hC hw 0 rfl rfl rfl (Nat.le_of_ble_eq_true rfl) dX8_addBytes_67 (fun H locs hw => ?_)
          have hw : kW γ A [(h, .inr (8, [.ref hg, .int (nI (n + 1)), .int t2, .int t3, .int t4, .int t5, .long t6, .ref t7])), (hg, .inl (γ.2.1 2, 1000, .inl f_981))] s H locs := hw
          refine lv_iinc (v := (-8)) (lv' := [(3, .int (-8)), (4, .int x_976), (0, .ref h), (1, .long v)]) hx hb dX8_addBytes_70 hl (k := 1) rfl (by decide) (by decide) rfl (fun ls hl => ?_)
          refine lv_goto (tgt := 3) hx hb dX8_addBytes_73 (by decide) ?_
          have hst : kst n (kby v 0) = (n + 1) := by rw [← hk]; exact (by first | exact kst_a c21 hlt | exact kst_b c28 c35 hlt | exact kst_full hfull | exact kst_lo c21 c28 | exact kst_hi c21 c35)
          exact ab_8 h hg t2 t3 t4 t5 t6 t7 v (n + 1) f_981 (by omega) F (by have h9 : kad v 0 (kst n (kby v 0)) = F := hF; rw [hst] at h9; exact h9)  hC hr hlocks _ _ (kW.sub hw [0, 1] rfl rfl) _ (lv_sub hl [0, 2, 3] rfl)

set_option maxHeartbeats 4000000 in
set_option maxRecDepth 100000 in
theorem ab_6 {γ : kΓ} {l : Launch} {p : Program} {e : Env} {s : State} {m : MethodId} {below : List Frame} {meth : Method} {c : Code} {A : Nat → Prop} (h : Nat) (hg : Nat) (t2 : Int32) (t3 : Int32) (t4 : Int32) (t5 : Int32) (t6 : Int64) (t7 : Nat) (v : Int64) (n : Nat) (f : Nat → Int32) (hn : n ≤ 1000) (F : Nat) (hF : kad v 2 n = F) (hC : kC γ p s m [.ref h, .long v].toArray c cX8_addBytes 5 RX8 A) (hr : meth.sig.returnType = none) (hlocks : meth.locks = false) (H : Heap) (locs : List Loc) (hw : kW γ A [(h, .inr (8, [.ref hg, .int (nI n), .int t2, .int t3, .int t4, .int t5, .long t6, .ref t7])), (hg, .inl (γ.2.1 2, 1000, .inl f))] s H locs) (ls : Array Slot) (hl : lv_has ls 5 [(3, .int 8), (0, .ref h), (1, .long v)]) : W p l e ({ frames := 0, cells := 0, slots := 0, locals := 0 } : Room) s m [.ref h, .long v].toArray below meth c H locs 0 0 (MQ below (kQ γ A (fun r w1 => ∃ (f9 : Nat → Int32), r = none ∧ w1 = [(h, .inr (8, [.ref hg, .int (nI F), .int t2, .int t3, .int t4, .int t5, .long t6, .ref t7])), (hg, .inl (γ.2.1 2, 1000, .inl f9))])) [.ref h, .long v].toArray s 0 0 A) (F0 m 3 ls []) := by
  have hx := hC.1
  have hb := hC.2.1
  refine lv_iload_n hx hb dX8_addBytes_3 rfl (lv_at hl 0 rfl) ?_
  refine lv_if_lt (tgt := 76) hx hb dX8_addBytes_4 (by decide) (fun h => absurd h (by decide)) (fun _ => ?_)
  refine lv_lload_n hx hb dX8_addBytes_7 rfl (lv_at hl 2 rfl) ?_
  refine lv_iload_n hx hb dX8_addBytes_8 rfl (lv_at hl 0 rfl) ?_
  refine lv_lushr hx hb dX8_addBytes_9 rfl ?_
  refine lv_topl (fun x_983 ex_983 => ?_)
  refine lv_l2i hx hb dX8_addBytes_10 rfl ?_
  refine lv_topi (fun x_984 ex_984 => ?_)
  refine lv_sipush (v := 255) hx hb dX8_addBytes_11 (by decide) ?_
  refine lv_iand hx hb dX8_addBytes_14 ?_
  refine lv_topi (fun x_985 ex_985 => ?_)
  refine lv_istore (lv' := [(4, .int x_985), (3, .int 8), (0, .ref h), (1, .long v)]) hx hb dX8_addBytes_15 hl (by decide) rfl (fun ls hl => ?_)
  have hk : x_985 = kby v 8 := by rw [ex_985, ex_984, ex_983]; rfl
  refine lv_iload hx hb dX8_addBytes_17 (lv_at hl 0 rfl) ?_
  refine lv_bipush (v := 10) hx hb dX8_addBytes_19 (by decide) ?_
  refine lv_icmp_eq (tgt := 38) hx hb dX8_addBytes_21 (by decide) (fun c21 => ?_) (fun c21 => ?_)
  · refine lv_aload_n hx hb dX8_addBytes_38 rfl (lv_at hl 2 rfl) ?_
    refine fg_RX8_24 hC hw 0 rfl rfl dX8_addBytes_39 ?_
    refine lv_sipush (v := 1000) hx hb dX8_addBytes_42 (by decide) ?_
    refine lv_icmp_ge (tgt := 70) hx hb dX8_addBytes_45 (by decide) (fun c45 => ?_) (fun c45 => ?_)
    · have hfull : ¬ n < 1000 := fun h9 => absurd c45 (nI_ge h9 (by decide))
      refine lv_iinc (v := 0) (lv' := [(3, .int 0), (4, .int x_985), (0, .ref h), (1, .long v)]) hx hb dX8_addBytes_70 hl (k := 1) rfl (by decide) (by decide) rfl (fun ls hl => ?_)
      refine lv_goto (tgt := 3) hx hb dX8_addBytes_73 (by decide) ?_
      have hst : kst n (kby v 8) = n := by rw [← hk]; exact (by first | exact kst_a c21 hlt | exact kst_b c28 c35 hlt | exact kst_full hfull | exact kst_lo c21 c28 | exact kst_hi c21 c35)
      exact ab_7 h hg t2 t3 t4 t5 t6 t7 v n f (by omega) F (by have h9 : kad v 1 (kst n (kby v 8)) = F := hF; rw [hst] at h9; exact h9)  hC hr hlocks _ _ (kW.sub hw [0, 1] rfl rfl) _ (lv_sub hl [0, 2, 3] rfl)
    · have hlt : n < 1000 := by rcases Nat.lt_or_ge n 1000 with h9 | h9; exact h9; exact absurd (nI_le h9 (by omega)) c45
      refine lv_aload_n hx hb dX8_addBytes_48 rfl (lv_at hl 2 rfl) ?_
      refine fg_RX8_9 hC hw 0 rfl rfl dX8_addBytes_49 ?_
      refine lv_aload_n hx hb dX8_addBytes_52 rfl (lv_at hl 2 rfl) ?_
      refine fg_RX8_24 hC hw 0 rfl rfl dX8_addBytes_53 ?_
      refine lv_iload hx hb dX8_addBytes_56 (lv_at hl 0 rfl) ?_
      refine lv_i2b hx hb dX8_addBytes_58 rfl ?_
      refine lv_topi (fun x_986 ex_986 => ?_)
      refine k_bast hC hw 1 rfl (vp_in_nI hlt (by decide)) dX8_addBytes_59 (fun H locs hw => ?_)
      obtain ⟨f_987, ef_987⟩ : ∃ g, g = upd f ((nI n) : Int32).toNatClampNeg (vp_nar .byte x_986) := ⟨_, rfl⟩
      have hw : kW γ A [(h, .inr (8, [.ref hg, .int (nI n), .int t2, .int t3, .int t4, .int t5, .long t6, .ref t7])), (hg, .inl (γ.2.1 2, 1000, .inl f_987))] s H locs := by rw [ef_987]; exact hw
      refine lv_aload_n hx hb dX8_addBytes_60 rfl (lv_at hl 2 rfl) ?_
      refine lv_dup hx hb dX8_addBytes_61 rfl ?_
      refine fg_RX8_24 hC hw 0 rfl rfl dX8_addBytes_62 ?_
      refine lv_iconst (v := 1) hx hb dX8_addBytes_65 (by decide) ?_
      refine lv_iadd hx hb dX8_addBytes_66 ?_
      refine lv_topi (fun x_988 ex_988 => ?_)
      obtain rfl : x_988 = (nI (n + 1)) := ex_988.trans (nI_1 n)
      refine fs_RX8_24 hC hw 0 rfl rfl rfl (Nat.le_of_ble_eq_true rfl) dX8_addBytes_67 (fun H locs hw => ?_)
      have hw : kW γ A [(h, .inr (8, [.ref hg, .int (nI (n + 1)), .int t2, .int t3, .int t4, .int t5, .long t6, .ref t7])), (hg, .inl (γ.2.1 2, 1000, .inl f_987))] s H locs := hw
      refine lv_iinc (v := 0) (lv' := [(3, .int 0), (4, .int x_985), (0, .ref h), (1, .long v)]) hx hb dX8_addBytes_70 hl (k := 1) rfl (by decide) (by decide) rfl (fun ls hl => ?_)
      refine lv_goto (tgt := 3) hx hb dX8_addBytes_73 (by decide) ?_
      have hst : kst n (kby v 8) = (n + 1) := by rw [← hk]; exact (by first | exact kst_a c21 hlt | exact kst_b c28 c35 hlt | exact kst_full hfull | exact kst_lo c21 c28 | exact kst_hi c21 c35)
      exact ab_7 h hg t2 t3 t4 t5 t6 t7 v (n + 1) f_987 (by omega) F (by have h9 : kad v 1 (kst n (kby v 8)) = F := hF; rw [hst] at h9; exact h9)  hC hr hlocks _ _ (kW.sub hw [0, 1] rfl rfl) _ (lv_sub hl [0, 2, 3] rfl)
  · refine lv_iload hx hb dX8_addBytes_24 (lv_at hl 0 rfl) ?_
    refine lv_bipush (v := 32) hx hb dX8_addBytes_26 (by decide) ?_
    refine lv_icmp_lt (tgt := 70) hx hb dX8_addBytes_28 (by decide) (fun c28 => ?_) (fun c28 => ?_)
    · refine lv_iinc (v := 0) (lv' := [(3, .int 0), (4, .int x_985), (0, .ref h), (1, .long v)]) hx hb dX8_addBytes_70 hl (k := 1) rfl (by decide) (by decide) rfl (fun ls hl => ?_)
      refine lv_goto (tgt := 3) hx hb dX8_addBytes_73 (by decide) ?_
      have hst : kst n (kby v 8) = n := by rw [← hk]; exact (by first | exact kst_a c21 hlt | exact kst_b c28 c35 hlt | exact kst_full hfull | exact kst_lo c21 c28 | exact kst_hi c21 c35)
      exact ab_7 h hg t2 t3 t4 t5 t6 t7 v n f (by omega) F (by have h9 : kad v 1 (kst n (kby v 8)) = F := hF; rw [hst] at h9; exact h9)  hC hr hlocks _ _ (kW.sub hw [0, 1] rfl rfl) _ (lv_sub hl [0, 2, 3] rfl)
    · refine lv_iload hx hb dX8_addBytes_31 (lv_at hl 0 rfl) ?_
      refine lv_bipush (v := 126) hx hb dX8_addBytes_33 (by decide) ?_
      refine lv_icmp_gt (tgt := 70) hx hb dX8_addBytes_35 (by decide) (fun c35 => ?_) (fun c35 => ?_)
      · refine lv_iinc (v := 0) (lv' := [(3, .int 0), (4, .int x_985), (0, .ref h), (1, .long v)]) hx hb dX8_addBytes_70 hl (k := 1) rfl (by decide) (by decide) rfl (fun ls hl => ?_)
        refine lv_goto (tgt := 3) hx hb dX8_addBytes_73 (by decide) ?_
        have hst : kst n (kby v 8) = n := by rw [← hk]; exact (by first | exact kst_a c21 hlt | exact kst_b c28 c35 hlt | exact kst_full hfull | exact kst_lo c21 c28 | exact kst_hi c21 c35)
        exact ab_7 h hg t2 t3 t4 t5 t6 t7 v n f (by omega) F (by have h9 : kad v 1 (kst n (kby v 8)) = F := hF; rw [hst] at h9; exact h9)  hC hr hlocks _ _ (kW.sub hw [0, 1] rfl rfl) _ (lv_sub hl [0, 2, 3] rfl)
      · refine lv_aload_n hx hb dX8_addBytes_38 rfl (lv_at hl 2 rfl) ?_
        refine fg_RX8_24 hC hw 0 rfl rfl dX8_addBytes_39 ?_
        refine lv_sipush (v := 1000) hx hb dX8_addBytes_42 (by decide) ?_
        refine lv_icmp_ge (tgt := 70) hx hb dX8_addBytes_45 (by decide) (fun c45 => ?_) (fun c45 => ?_)
        · have hfull : ¬ n < 1000 := fun h9 => absurd c45 (nI_ge h9 (by decide))
          refine lv_iinc (v := 0) (lv' := [(3, .int 0), (4, .int x_985), (0, .ref h), (1, .long v)]) hx hb dX8_addBytes_70 hl (k := 1) rfl (by decide) (by decide) rfl (fun ls hl => ?_)
          refine lv_goto (tgt := 3) hx hb dX8_addBytes_73 (by decide) ?_
          have hst : kst n (kby v 8) = n := by rw [← hk]; exact (by first | exact kst_a c21 hlt | exact kst_b c28 c35 hlt | exact kst_full hfull | exact kst_lo c21 c28 | exact kst_hi c21 c35)
          exact ab_7 h hg t2 t3 t4 t5 t6 t7 v n f (by omega) F (by have h9 : kad v 1 (kst n (kby v 8)) = F := hF; rw [hst] at h9; exact h9)  hC hr hlocks _ _ (kW.sub hw [0, 1] rfl rfl) _ (lv_sub hl [0, 2, 3] rfl)
        · have hlt : n < 1000 := by rcases Nat.lt_or_ge n 1000 with h9 | h9; exact h9; exact absurd (nI_le h9 (by omega)) c45
          refine lv_aload_n hx hb dX8_addBytes_48 rfl (lv_at hl 2 rfl) ?_
          refine fg_RX8_9 hC hw 0 rfl rfl dX8_addBytes_49 ?_
          refine lv_aload_n hx hb dX8_addBytes_52 rfl (lv_at hl 2 rfl) ?_
          refine fg_RX8_24 hC hw 0 rfl rfl dX8_addBytes_53 ?_
          refine lv_iload hx hb dX8_addBytes_56 (lv_at hl 0 rfl) ?_
          refine lv_i2b hx hb dX8_addBytes_58 rfl ?_
          refine lv_topi (fun x_989 ex_989 => ?_)
          refine k_bast hC hw 1 rfl (vp_in_nI hlt (by decide)) dX8_addBytes_59 (fun H locs hw => ?_)
          obtain ⟨f_990, ef_990⟩ : ∃ g, g = upd f ((nI n) : Int32).toNatClampNeg (vp_nar .byte x_989) := ⟨_, rfl⟩
          have hw : kW γ A [(h, .inr (8, [.ref hg, .int (nI n), .int t2, .int t3, .int t4, .int t5, .long t6, .ref t7])), (hg, .inl (γ.2.1 2, 1000, .inl f_990))] s H locs := by rw [ef_990]; exact hw
          refine lv_aload_n hx hb dX8_addBytes_60 rfl (lv_at hl 2 rfl) ?_
          refine lv_dup hx hb dX8_addBytes_61 rfl ?_
          refine fg_RX8_24 hC hw 0 rfl rfl dX8_addBytes_62 ?_
          refine lv_iconst (v := 1) hx hb dX8_addBytes_65 (by decide) ?_
          refine lv_iadd hx hb dX8_addBytes_66 ?_
          refine lv_topi (fun x_991 ex_991 => ?_)
          obtain rfl : x_991 = (nI (n + 1)) := ex_991.trans (nI_1 n)
          refine fs_RX8_24 hC hw 0 rfl rfl rfl (Nat.le_of_ble_eq_true rfl) dX8_addBytes_67 (fun H locs hw => ?_)
          have hw : kW γ A [(h, .inr (8, [.ref hg, .int (nI (n + 1)), .int t2, .int t3, .int t4, .int t5, .long t6, .ref t7])), (hg, .inl (γ.2.1 2, 1000, .inl f_990))] s H locs := hw
          refine lv_iinc (v := 0) (lv' := [(3, .int 0), (4, .int x_985), (0, .ref h), (1, .long v)]) hx hb dX8_addBytes_70 hl (k := 1) rfl (by decide) (by decide) rfl (fun ls hl => ?_)
          refine lv_goto (tgt := 3) hx hb dX8_addBytes_73 (by decide) ?_
          have hst : kst n (kby v 8) = (n + 1) := by rw [← hk]; exact (by first | exact kst_a c21 hlt | exact kst_b c28 c35 hlt | exact kst_full hfull | exact kst_lo c21 c28 | exact kst_hi c21 c35)
          exact ab_7 h hg t2 t3 t4 t5 t6 t7 v (n + 1) f_990 (by omega) F (by have h9 : kad v 1 (kst n (kby v 8)) = F := hF; rw [hst] at h9; exact h9)  hC hr hlocks _ _ (kW.sub hw [0, 1] rfl rfl) _ (lv_sub hl [0, 2, 3] rfl)

set_option maxHeartbeats 4000000 in
set_option maxRecDepth 100000 in
theorem ab_5 {γ : kΓ} {l : Launch} {p : Program} {e : Env} {s : State} {m : MethodId} {below : List Frame} {meth : Method} {c : Code} {A : Nat → Prop} (h : Nat) (hg : Nat) (t2 : Int32) (t3 : Int32) (t4 : Int32) (t5 : Int32) (t6 : Int64) (t7 : Nat) (v : Int64) (n : Nat) (f : Nat → Int32) (hn : n ≤ 1000) (F : Nat) (hF : kad v 3 n = F) (hC : kC γ p s m [.ref h, .long v].toArray c cX8_addBytes 5 RX8 A) (hr : meth.sig.returnType = none) (hlocks : meth.locks = false) (H : Heap) (locs : List Loc) (hw : kW γ A [(h, .inr (8, [.ref hg, .int (nI n), .int t2, .int t3, .int t4, .int t5, .long t6, .ref t7])), (hg, .inl (γ.2.1 2, 1000, .inl f))] s H locs) (ls : Array Slot) (hl : lv_has ls 5 [(3, .int 16), (0, .ref h), (1, .long v)]) : W p l e ({ frames := 0, cells := 0, slots := 0, locals := 0 } : Room) s m [.ref h, .long v].toArray below meth c H locs 0 0 (MQ below (kQ γ A (fun r w1 => ∃ (f9 : Nat → Int32), r = none ∧ w1 = [(h, .inr (8, [.ref hg, .int (nI F), .int t2, .int t3, .int t4, .int t5, .long t6, .ref t7])), (hg, .inl (γ.2.1 2, 1000, .inl f9))])) [.ref h, .long v].toArray s 0 0 A) (F0 m 3 ls []) := by
  have hx := hC.1
  have hb := hC.2.1
  refine lv_iload_n hx hb dX8_addBytes_3 rfl (lv_at hl 0 rfl) ?_
  refine lv_if_lt (tgt := 76) hx hb dX8_addBytes_4 (by decide) (fun h => absurd h (by decide)) (fun _ => ?_)
  refine lv_lload_n hx hb dX8_addBytes_7 rfl (lv_at hl 2 rfl) ?_
  refine lv_iload_n hx hb dX8_addBytes_8 rfl (lv_at hl 0 rfl) ?_
  refine lv_lushr hx hb dX8_addBytes_9 rfl ?_
  refine lv_topl (fun x_992 ex_992 => ?_)
  refine lv_l2i hx hb dX8_addBytes_10 rfl ?_
  refine lv_topi (fun x_993 ex_993 => ?_)
  refine lv_sipush (v := 255) hx hb dX8_addBytes_11 (by decide) ?_
  refine lv_iand hx hb dX8_addBytes_14 ?_
  refine lv_topi (fun x_994 ex_994 => ?_)
  refine lv_istore (lv' := [(4, .int x_994), (3, .int 16), (0, .ref h), (1, .long v)]) hx hb dX8_addBytes_15 hl (by decide) rfl (fun ls hl => ?_)
  have hk : x_994 = kby v 16 := by rw [ex_994, ex_993, ex_992]; rfl
  refine lv_iload hx hb dX8_addBytes_17 (lv_at hl 0 rfl) ?_
  refine lv_bipush (v := 10) hx hb dX8_addBytes_19 (by decide) ?_
  refine lv_icmp_eq (tgt := 38) hx hb dX8_addBytes_21 (by decide) (fun c21 => ?_) (fun c21 => ?_)
  · refine lv_aload_n hx hb dX8_addBytes_38 rfl (lv_at hl 2 rfl) ?_
    refine fg_RX8_24 hC hw 0 rfl rfl dX8_addBytes_39 ?_
    refine lv_sipush (v := 1000) hx hb dX8_addBytes_42 (by decide) ?_
    refine lv_icmp_ge (tgt := 70) hx hb dX8_addBytes_45 (by decide) (fun c45 => ?_) (fun c45 => ?_)
    · have hfull : ¬ n < 1000 := fun h9 => absurd c45 (nI_ge h9 (by decide))
      refine lv_iinc (v := 8) (lv' := [(3, .int 8), (4, .int x_994), (0, .ref h), (1, .long v)]) hx hb dX8_addBytes_70 hl (k := 1) rfl (by decide) (by decide) rfl (fun ls hl => ?_)
      refine lv_goto (tgt := 3) hx hb dX8_addBytes_73 (by decide) ?_
      have hst : kst n (kby v 16) = n := by rw [← hk]; exact (by first | exact kst_a c21 hlt | exact kst_b c28 c35 hlt | exact kst_full hfull | exact kst_lo c21 c28 | exact kst_hi c21 c35)
      exact ab_6 h hg t2 t3 t4 t5 t6 t7 v n f (by omega) F (by have h9 : kad v 2 (kst n (kby v 16)) = F := hF; rw [hst] at h9; exact h9)  hC hr hlocks _ _ (kW.sub hw [0, 1] rfl rfl) _ (lv_sub hl [0, 2, 3] rfl)
    · have hlt : n < 1000 := by rcases Nat.lt_or_ge n 1000 with h9 | h9; exact h9; exact absurd (nI_le h9 (by omega)) c45
      refine lv_aload_n hx hb dX8_addBytes_48 rfl (lv_at hl 2 rfl) ?_
      refine fg_RX8_9 hC hw 0 rfl rfl dX8_addBytes_49 ?_
      refine lv_aload_n hx hb dX8_addBytes_52 rfl (lv_at hl 2 rfl) ?_
      refine fg_RX8_24 hC hw 0 rfl rfl dX8_addBytes_53 ?_
      refine lv_iload hx hb dX8_addBytes_56 (lv_at hl 0 rfl) ?_
      refine lv_i2b hx hb dX8_addBytes_58 rfl ?_
      refine lv_topi (fun x_995 ex_995 => ?_)
      refine k_bast hC hw 1 rfl (vp_in_nI hlt (by decide)) dX8_addBytes_59 (fun H locs hw => ?_)
      obtain ⟨f_996, ef_996⟩ : ∃ g, g = upd f ((nI n) : Int32).toNatClampNeg (vp_nar .byte x_995) := ⟨_, rfl⟩
      have hw : kW γ A [(h, .inr (8, [.ref hg, .int (nI n), .int t2, .int t3, .int t4, .int t5, .long t6, .ref t7])), (hg, .inl (γ.2.1 2, 1000, .inl f_996))] s H locs := by rw [ef_996]; exact hw
      refine lv_aload_n hx hb dX8_addBytes_60 rfl (lv_at hl 2 rfl) ?_
      refine lv_dup hx hb dX8_addBytes_61 rfl ?_
      refine fg_RX8_24 hC hw 0 rfl rfl dX8_addBytes_62 ?_
      refine lv_iconst (v := 1) hx hb dX8_addBytes_65 (by decide) ?_
      refine lv_iadd hx hb dX8_addBytes_66 ?_
      refine lv_topi (fun x_997 ex_997 => ?_)
      obtain rfl : x_997 = (nI (n + 1)) := ex_997.trans (nI_1 n)
      refine fs_RX8_24 hC hw 0 rfl rfl rfl (Nat.le_of_ble_eq_true rfl) dX8_addBytes_67 (fun H locs hw => ?_)
      have hw : kW γ A [(h, .inr (8, [.ref hg, .int (nI (n + 1)), .int t2, .int t3, .int t4, .int t5, .long t6, .ref t7])), (hg, .inl (γ.2.1 2, 1000, .inl f_996))] s H locs := hw
      refine lv_iinc (v := 8) (lv' := [(3, .int 8), (4, .int x_994), (0, .ref h), (1, .long v)]) hx hb dX8_addBytes_70 hl (k := 1) rfl (by decide) (by decide) rfl (fun ls hl => ?_)
      refine lv_goto (tgt := 3) hx hb dX8_addBytes_73 (by decide) ?_
      have hst : kst n (kby v 16) = (n + 1) := by rw [← hk]; exact (by first | exact kst_a c21 hlt | exact kst_b c28 c35 hlt | exact kst_full hfull | exact kst_lo c21 c28 | exact kst_hi c21 c35)
      exact ab_6 h hg t2 t3 t4 t5 t6 t7 v (n + 1) f_996 (by omega) F (by have h9 : kad v 2 (kst n (kby v 16)) = F := hF; rw [hst] at h9; exact h9)  hC hr hlocks _ _ (kW.sub hw [0, 1] rfl rfl) _ (lv_sub hl [0, 2, 3] rfl)
  · refine lv_iload hx hb dX8_addBytes_24 (lv_at hl 0 rfl) ?_
    refine lv_bipush (v := 32) hx hb dX8_addBytes_26 (by decide) ?_
    refine lv_icmp_lt (tgt := 70) hx hb dX8_addBytes_28 (by decide) (fun c28 => ?_) (fun c28 => ?_)
    · refine lv_iinc (v := 8) (lv' := [(3, .int 8), (4, .int x_994), (0, .ref h), (1, .long v)]) hx hb dX8_addBytes_70 hl (k := 1) rfl (by decide) (by decide) rfl (fun ls hl => ?_)
      refine lv_goto (tgt := 3) hx hb dX8_addBytes_73 (by decide) ?_
      have hst : kst n (kby v 16) = n := by rw [← hk]; exact (by first | exact kst_a c21 hlt | exact kst_b c28 c35 hlt | exact kst_full hfull | exact kst_lo c21 c28 | exact kst_hi c21 c35)
      exact ab_6 h hg t2 t3 t4 t5 t6 t7 v n f (by omega) F (by have h9 : kad v 2 (kst n (kby v 16)) = F := hF; rw [hst] at h9; exact h9)  hC hr hlocks _ _ (kW.sub hw [0, 1] rfl rfl) _ (lv_sub hl [0, 2, 3] rfl)
    · refine lv_iload hx hb dX8_addBytes_31 (lv_at hl 0 rfl) ?_
      refine lv_bipush (v := 126) hx hb dX8_addBytes_33 (by decide) ?_
      refine lv_icmp_gt (tgt := 70) hx hb dX8_addBytes_35 (by decide) (fun c35 => ?_) (fun c35 => ?_)
      · refine lv_iinc (v := 8) (lv' := [(3, .int 8), (4, .int x_994), (0, .ref h), (1, .long v)]) hx hb dX8_addBytes_70 hl (k := 1) rfl (by decide) (by decide) rfl (fun ls hl => ?_)
        refine lv_goto (tgt := 3) hx hb dX8_addBytes_73 (by decide) ?_
        have hst : kst n (kby v 16) = n := by rw [← hk]; exact (by first | exact kst_a c21 hlt | exact kst_b c28 c35 hlt | exact kst_full hfull | exact kst_lo c21 c28 | exact kst_hi c21 c35)
        exact ab_6 h hg t2 t3 t4 t5 t6 t7 v n f (by omega) F (by have h9 : kad v 2 (kst n (kby v 16)) = F := hF; rw [hst] at h9; exact h9)  hC hr hlocks _ _ (kW.sub hw [0, 1] rfl rfl) _ (lv_sub hl [0, 2, 3] rfl)
      · refine lv_aload_n hx hb dX8_addBytes_38 rfl (lv_at hl 2 rfl) ?_
        refine fg_RX8_24 hC hw 0 rfl rfl dX8_addBytes_39 ?_
        refine lv_sipush (v := 1000) hx hb dX8_addBytes_42 (by decide) ?_
        refine lv_icmp_ge (tgt := 70) hx hb dX8_addBytes_45 (by decide) (fun c45 => ?_) (fun c45 => ?_)
        · have hfull : ¬ n < 1000 := fun h9 => absurd c45 (nI_ge h9 (by decide))
          refine lv_iinc (v := 8) (lv' := [(3, .int 8), (4, .int x_994), (0, .ref h), (1, .long v)]) hx hb dX8_addBytes_70 hl (k := 1) rfl (by decide) (by decide) rfl (fun ls hl => ?_)
          refine lv_goto (tgt := 3) hx hb dX8_addBytes_73 (by decide) ?_
          have hst : kst n (kby v 16) = n := by rw [← hk]; exact (by first | exact kst_a c21 hlt | exact kst_b c28 c35 hlt | exact kst_full hfull | exact kst_lo c21 c28 | exact kst_hi c21 c35)
          exact ab_6 h hg t2 t3 t4 t5 t6 t7 v n f (by omega) F (by have h9 : kad v 2 (kst n (kby v 16)) = F := hF; rw [hst] at h9; exact h9)  hC hr hlocks _ _ (kW.sub hw [0, 1] rfl rfl) _ (lv_sub hl [0, 2, 3] rfl)
        · have hlt : n < 1000 := by rcases Nat.lt_or_ge n 1000 with h9 | h9; exact h9; exact absurd (nI_le h9 (by omega)) c45
          refine lv_aload_n hx hb dX8_addBytes_48 rfl (lv_at hl 2 rfl) ?_
          refine fg_RX8_9 hC hw 0 rfl rfl dX8_addBytes_49 ?_
          refine lv_aload_n hx hb dX8_addBytes_52 rfl (lv_at hl 2 rfl) ?_
          refine fg_RX8_24 hC hw 0 rfl rfl dX8_addBytes_53 ?_
          refine lv_iload hx hb dX8_addBytes_56 (lv_at hl 0 rfl) ?_
          refine lv_i2b hx hb dX8_addBytes_58 rfl ?_
          refine lv_topi (fun x_998 ex_998 => ?_)
          refine k_bast hC hw 1 rfl (vp_in_nI hlt (by decide)) dX8_addBytes_59 (fun H locs hw => ?_)
          obtain ⟨f_999, ef_999⟩ : ∃ g, g = upd f ((nI n) : Int32).toNatClampNeg (vp_nar .byte x_998) := ⟨_, rfl⟩
          have hw : kW γ A [(h, .inr (8, [.ref hg, .int (nI n), .int t2, .int t3, .int t4, .int t5, .long t6, .ref t7])), (hg, .inl (γ.2.1 2, 1000, .inl f_999))] s H locs := by rw [ef_999]; exact hw
          refine lv_aload_n hx hb dX8_addBytes_60 rfl (lv_at hl 2 rfl) ?_
          refine lv_dup hx hb dX8_addBytes_61 rfl ?_
          refine fg_RX8_24 hC hw 0 rfl rfl dX8_addBytes_62 ?_
          refine lv_iconst (v := 1) hx hb dX8_addBytes_65 (by decide) ?_
          refine lv_iadd hx hb dX8_addBytes_66 ?_
          refine lv_topi (fun x_1000 ex_1000 => ?_)
          obtain rfl : x_1000 = (nI (n + 1)) := ex_1000.trans (nI_1 n)
          refine fs_RX8_24 hC hw 0 rfl rfl rfl (Nat.le_of_ble_eq_true rfl) dX8_addBytes_67 (fun H locs hw => ?_)
          have hw : kW γ A [(h, .inr (8, [.ref hg, .int (nI (n + 1)), .int t2, .int t3, .int t4, .int t5, .long t6, .ref t7])), (hg, .inl (γ.2.1 2, 1000, .inl f_999))] s H locs := hw
          refine lv_iinc (v := 8) (lv' := [(3, .int 8), (4, .int x_994), (0, .ref h), (1, .long v)]) hx hb dX8_addBytes_70 hl (k := 1) rfl (by decide) (by decide) rfl (fun ls hl => ?_)
          refine lv_goto (tgt := 3) hx hb dX8_addBytes_73 (by decide) ?_
          have hst : kst n (kby v 16) = (n + 1) := by rw [← hk]; exact (by first | exact kst_a c21 hlt | exact kst_b c28 c35 hlt | exact kst_full hfull | exact kst_lo c21 c28 | exact kst_hi c21 c35)
          exact ab_6 h hg t2 t3 t4 t5 t6 t7 v (n + 1) f_999 (by omega) F (by have h9 : kad v 2 (kst n (kby v 16)) = F := hF; rw [hst] at h9; exact h9)  hC hr hlocks _ _ (kW.sub hw [0, 1] rfl rfl) _ (lv_sub hl [0, 2, 3] rfl)

set_option maxHeartbeats 4000000 in
set_option maxRecDepth 100000 in
theorem ab_4 {γ : kΓ} {l : Launch} {p : Program} {e : Env} {s : State} {m : MethodId} {below : List Frame} {meth : Method} {c : Code} {A : Nat → Prop} (h : Nat) (hg : Nat) (t2 : Int32) (t3 : Int32) (t4 : Int32) (t5 : Int32) (t6 : Int64) (t7 : Nat) (v : Int64) (n : Nat) (f : Nat → Int32) (hn : n ≤ 1000) (F : Nat) (hF : kad v 4 n = F) (hC : kC γ p s m [.ref h, .long v].toArray c cX8_addBytes 5 RX8 A) (hr : meth.sig.returnType = none) (hlocks : meth.locks = false) (H : Heap) (locs : List Loc) (hw : kW γ A [(h, .inr (8, [.ref hg, .int (nI n), .int t2, .int t3, .int t4, .int t5, .long t6, .ref t7])), (hg, .inl (γ.2.1 2, 1000, .inl f))] s H locs) (ls : Array Slot) (hl : lv_has ls 5 [(3, .int 24), (0, .ref h), (1, .long v)]) : W p l e ({ frames := 0, cells := 0, slots := 0, locals := 0 } : Room) s m [.ref h, .long v].toArray below meth c H locs 0 0 (MQ below (kQ γ A (fun r w1 => ∃ (f9 : Nat → Int32), r = none ∧ w1 = [(h, .inr (8, [.ref hg, .int (nI F), .int t2, .int t3, .int t4, .int t5, .long t6, .ref t7])), (hg, .inl (γ.2.1 2, 1000, .inl f9))])) [.ref h, .long v].toArray s 0 0 A) (F0 m 3 ls []) := by
  have hx := hC.1
  have hb := hC.2.1
  refine lv_iload_n hx hb dX8_addBytes_3 rfl (lv_at hl 0 rfl) ?_
  refine lv_if_lt (tgt := 76) hx hb dX8_addBytes_4 (by decide) (fun h => absurd h (by decide)) (fun _ => ?_)
  refine lv_lload_n hx hb dX8_addBytes_7 rfl (lv_at hl 2 rfl) ?_
  refine lv_iload_n hx hb dX8_addBytes_8 rfl (lv_at hl 0 rfl) ?_
  refine lv_lushr hx hb dX8_addBytes_9 rfl ?_
  refine lv_topl (fun x_1001 ex_1001 => ?_)
  refine lv_l2i hx hb dX8_addBytes_10 rfl ?_
  refine lv_topi (fun x_1002 ex_1002 => ?_)
  refine lv_sipush (v := 255) hx hb dX8_addBytes_11 (by decide) ?_
  refine lv_iand hx hb dX8_addBytes_14 ?_
  refine lv_topi (fun x_1003 ex_1003 => ?_)
  refine lv_istore (lv' := [(4, .int x_1003), (3, .int 24), (0, .ref h), (1, .long v)]) hx hb dX8_addBytes_15 hl (by decide) rfl (fun ls hl => ?_)
  have hk : x_1003 = kby v 24 := by rw [ex_1003, ex_1002, ex_1001]; rfl
  refine lv_iload hx hb dX8_addBytes_17 (lv_at hl 0 rfl) ?_
  refine lv_bipush (v := 10) hx hb dX8_addBytes_19 (by decide) ?_
  refine lv_icmp_eq (tgt := 38) hx hb dX8_addBytes_21 (by decide) (fun c21 => ?_) (fun c21 => ?_)
  · refine lv_aload_n hx hb dX8_addBytes_38 rfl (lv_at hl 2 rfl) ?_
    refine fg_RX8_24 hC hw 0 rfl rfl dX8_addBytes_39 ?_
    refine lv_sipush (v := 1000) hx hb dX8_addBytes_42 (by decide) ?_
    refine lv_icmp_ge (tgt := 70) hx hb dX8_addBytes_45 (by decide) (fun c45 => ?_) (fun c45 => ?_)
    · have hfull : ¬ n < 1000 := fun h9 => absurd c45 (nI_ge h9 (by decide))
      refine lv_iinc (v := 16) (lv' := [(3, .int 16), (4, .int x_1003), (0, .ref h), (1, .long v)]) hx hb dX8_addBytes_70 hl (k := 1) rfl (by decide) (by decide) rfl (fun ls hl => ?_)
      refine lv_goto (tgt := 3) hx hb dX8_addBytes_73 (by decide) ?_
      have hst : kst n (kby v 24) = n := by rw [← hk]; exact (by first | exact kst_a c21 hlt | exact kst_b c28 c35 hlt | exact kst_full hfull | exact kst_lo c21 c28 | exact kst_hi c21 c35)
      exact ab_5 h hg t2 t3 t4 t5 t6 t7 v n f (by omega) F (by have h9 : kad v 3 (kst n (kby v 24)) = F := hF; rw [hst] at h9; exact h9)  hC hr hlocks _ _ (kW.sub hw [0, 1] rfl rfl) _ (lv_sub hl [0, 2, 3] rfl)
    · have hlt : n < 1000 := by rcases Nat.lt_or_ge n 1000 with h9 | h9; exact h9; exact absurd (nI_le h9 (by omega)) c45
      refine lv_aload_n hx hb dX8_addBytes_48 rfl (lv_at hl 2 rfl) ?_
      refine fg_RX8_9 hC hw 0 rfl rfl dX8_addBytes_49 ?_
      refine lv_aload_n hx hb dX8_addBytes_52 rfl (lv_at hl 2 rfl) ?_
      refine fg_RX8_24 hC hw 0 rfl rfl dX8_addBytes_53 ?_
      refine lv_iload hx hb dX8_addBytes_56 (lv_at hl 0 rfl) ?_
      refine lv_i2b hx hb dX8_addBytes_58 rfl ?_
      refine lv_topi (fun x_1004 ex_1004 => ?_)
      refine k_bast hC hw 1 rfl (vp_in_nI hlt (by decide)) dX8_addBytes_59 (fun H locs hw => ?_)
      obtain ⟨f_1005, ef_1005⟩ : ∃ g, g = upd f ((nI n) : Int32).toNatClampNeg (vp_nar .byte x_1004) := ⟨_, rfl⟩
      have hw : kW γ A [(h, .inr (8, [.ref hg, .int (nI n), .int t2, .int t3, .int t4, .int t5, .long t6, .ref t7])), (hg, .inl (γ.2.1 2, 1000, .inl f_1005))] s H locs := by rw [ef_1005]; exact hw
      refine lv_aload_n hx hb dX8_addBytes_60 rfl (lv_at hl 2 rfl) ?_
      refine lv_dup hx hb dX8_addBytes_61 rfl ?_
      refine fg_RX8_24 hC hw 0 rfl rfl dX8_addBytes_62 ?_
      refine lv_iconst (v := 1) hx hb dX8_addBytes_65 (by decide) ?_
      refine lv_iadd hx hb dX8_addBytes_66 ?_
      refine lv_topi (fun x_1006 ex_1006 => ?_)
      obtain rfl : x_1006 = (nI (n + 1)) := ex_1006.trans (nI_1 n)
      refine fs_RX8_24 hC hw 0 rfl rfl rfl (Nat.le_of_ble_eq_true rfl) dX8_addBytes_67 (fun H locs hw => ?_)
      have hw : kW γ A [(h, .inr (8, [.ref hg, .int (nI (n + 1)), .int t2, .int t3, .int t4, .int t5, .long t6, .ref t7])), (hg, .inl (γ.2.1 2, 1000, .inl f_1005))] s H locs := hw
      refine lv_iinc (v := 16) (lv' := [(3, .int 16), (4, .int x_1003), (0, .ref h), (1, .long v)]) hx hb dX8_addBytes_70 hl (k := 1) rfl (by decide) (by decide) rfl (fun ls hl => ?_)
      refine lv_goto (tgt := 3) hx hb dX8_addBytes_73 (by decide) ?_
      have hst : kst n (kby v 24) = (n + 1) := by rw [← hk]; exact (by first | exact kst_a c21 hlt | exact kst_b c28 c35 hlt | exact kst_full hfull | exact kst_lo c21 c28 | exact kst_hi c21 c35)
      exact ab_5 h hg t2 t3 t4 t5 t6 t7 v (n + 1) f_1005 (by omega) F (by have h9 : kad v 3 (kst n (kby v 24)) = F := hF; rw [hst] at h9; exact h9)  hC hr hlocks _ _ (kW.sub hw [0, 1] rfl rfl) _ (lv_sub hl [0, 2, 3] rfl)
  · refine lv_iload hx hb dX8_addBytes_24 (lv_at hl 0 rfl) ?_
    refine lv_bipush (v := 32) hx hb dX8_addBytes_26 (by decide) ?_
    refine lv_icmp_lt (tgt := 70) hx hb dX8_addBytes_28 (by decide) (fun c28 => ?_) (fun c28 => ?_)
    · refine lv_iinc (v := 16) (lv' := [(3, .int 16), (4, .int x_1003), (0, .ref h), (1, .long v)]) hx hb dX8_addBytes_70 hl (k := 1) rfl (by decide) (by decide) rfl (fun ls hl => ?_)
      refine lv_goto (tgt := 3) hx hb dX8_addBytes_73 (by decide) ?_
      have hst : kst n (kby v 24) = n := by rw [← hk]; exact (by first | exact kst_a c21 hlt | exact kst_b c28 c35 hlt | exact kst_full hfull | exact kst_lo c21 c28 | exact kst_hi c21 c35)
      exact ab_5 h hg t2 t3 t4 t5 t6 t7 v n f (by omega) F (by have h9 : kad v 3 (kst n (kby v 24)) = F := hF; rw [hst] at h9; exact h9)  hC hr hlocks _ _ (kW.sub hw [0, 1] rfl rfl) _ (lv_sub hl [0, 2, 3] rfl)
    · refine lv_iload hx hb dX8_addBytes_31 (lv_at hl 0 rfl) ?_
      refine lv_bipush (v := 126) hx hb dX8_addBytes_33 (by decide) ?_
      refine lv_icmp_gt (tgt := 70) hx hb dX8_addBytes_35 (by decide) (fun c35 => ?_) (fun c35 => ?_)
      · refine lv_iinc (v := 16) (lv' := [(3, .int 16), (4, .int x_1003), (0, .ref h), (1, .long v)]) hx hb dX8_addBytes_70 hl (k := 1) rfl (by decide) (by decide) rfl (fun ls hl => ?_)
        refine lv_goto (tgt := 3) hx hb dX8_addBytes_73 (by decide) ?_
        have hst : kst n (kby v 24) = n := by rw [← hk]; exact (by first | exact kst_a c21 hlt | exact kst_b c28 c35 hlt | exact kst_full hfull | exact kst_lo c21 c28 | exact kst_hi c21 c35)
        exact ab_5 h hg t2 t3 t4 t5 t6 t7 v n f (by omega) F (by have h9 : kad v 3 (kst n (kby v 24)) = F := hF; rw [hst] at h9; exact h9)  hC hr hlocks _ _ (kW.sub hw [0, 1] rfl rfl) _ (lv_sub hl [0, 2, 3] rfl)
      · refine lv_aload_n hx hb dX8_addBytes_38 rfl (lv_at hl 2 rfl) ?_
        refine fg_RX8_24 hC hw 0 rfl rfl dX8_addBytes_39 ?_
        refine lv_sipush (v := 1000) hx hb dX8_addBytes_42 (by decide) ?_
        refine lv_icmp_ge (tgt := 70) hx hb dX8_addBytes_45 (by decide) (fun c45 => ?_) (fun c45 => ?_)
        · have hfull : ¬ n < 1000 := fun h9 => absurd c45 (nI_ge h9 (by decide))
          refine lv_iinc (v := 16) (lv' := [(3, .int 16), (4, .int x_1003), (0, .ref h), (1, .long v)]) hx hb dX8_addBytes_70 hl (k := 1) rfl (by decide) (by decide) rfl (fun ls hl => ?_)
          refine lv_goto (tgt := 3) hx hb dX8_addBytes_73 (by decide) ?_
          have hst : kst n (kby v 24) = n := by rw [← hk]; exact (by first | exact kst_a c21 hlt | exact kst_b c28 c35 hlt | exact kst_full hfull | exact kst_lo c21 c28 | exact kst_hi c21 c35)
          exact ab_5 h hg t2 t3 t4 t5 t6 t7 v n f (by omega) F (by have h9 : kad v 3 (kst n (kby v 24)) = F := hF; rw [hst] at h9; exact h9)  hC hr hlocks _ _ (kW.sub hw [0, 1] rfl rfl) _ (lv_sub hl [0, 2, 3] rfl)
        · have hlt : n < 1000 := by rcases Nat.lt_or_ge n 1000 with h9 | h9; exact h9; exact absurd (nI_le h9 (by omega)) c45
          refine lv_aload_n hx hb dX8_addBytes_48 rfl (lv_at hl 2 rfl) ?_
          refine fg_RX8_9 hC hw 0 rfl rfl dX8_addBytes_49 ?_
          refine lv_aload_n hx hb dX8_addBytes_52 rfl (lv_at hl 2 rfl) ?_
          refine fg_RX8_24 hC hw 0 rfl rfl dX8_addBytes_53 ?_
          refine lv_iload hx hb dX8_addBytes_56 (lv_at hl 0 rfl) ?_
          refine lv_i2b hx hb dX8_addBytes_58 rfl ?_
          refine lv_topi (fun x_1007 ex_1007 => ?_)
          refine k_bast hC hw 1 rfl (vp_in_nI hlt (by decide)) dX8_addBytes_59 (fun H locs hw => ?_)
          obtain ⟨f_1008, ef_1008⟩ : ∃ g, g = upd f ((nI n) : Int32).toNatClampNeg (vp_nar .byte x_1007) := ⟨_, rfl⟩
          have hw : kW γ A [(h, .inr (8, [.ref hg, .int (nI n), .int t2, .int t3, .int t4, .int t5, .long t6, .ref t7])), (hg, .inl (γ.2.1 2, 1000, .inl f_1008))] s H locs := by rw [ef_1008]; exact hw
          refine lv_aload_n hx hb dX8_addBytes_60 rfl (lv_at hl 2 rfl) ?_
          refine lv_dup hx hb dX8_addBytes_61 rfl ?_
          refine fg_RX8_24 hC hw 0 rfl rfl dX8_addBytes_62 ?_
          refine lv_iconst (v := 1) hx hb dX8_addBytes_65 (by decide) ?_
          refine lv_iadd hx hb dX8_addBytes_66 ?_
          refine lv_topi (fun x_1009 ex_1009 => ?_)
          obtain rfl : x_1009 = (nI (n + 1)) := ex_1009.trans (nI_1 n)
          refine fs_RX8_24 hC hw 0 rfl rfl rfl (Nat.le_of_ble_eq_true rfl) dX8_addBytes_67 (fun H locs hw => ?_)
          have hw : kW γ A [(h, .inr (8, [.ref hg, .int (nI (n + 1)), .int t2, .int t3, .int t4, .int t5, .long t6, .ref t7])), (hg, .inl (γ.2.1 2, 1000, .inl f_1008))] s H locs := hw
          refine lv_iinc (v := 16) (lv' := [(3, .int 16), (4, .int x_1003), (0, .ref h), (1, .long v)]) hx hb dX8_addBytes_70 hl (k := 1) rfl (by decide) (by decide) rfl (fun ls hl => ?_)
          refine lv_goto (tgt := 3) hx hb dX8_addBytes_73 (by decide) ?_
          have hst : kst n (kby v 24) = (n + 1) := by rw [← hk]; exact (by first | exact kst_a c21 hlt | exact kst_b c28 c35 hlt | exact kst_full hfull | exact kst_lo c21 c28 | exact kst_hi c21 c35)
          exact ab_5 h hg t2 t3 t4 t5 t6 t7 v (n + 1) f_1008 (by omega) F (by have h9 : kad v 3 (kst n (kby v 24)) = F := hF; rw [hst] at h9; exact h9)  hC hr hlocks _ _ (kW.sub hw [0, 1] rfl rfl) _ (lv_sub hl [0, 2, 3] rfl)

set_option maxHeartbeats 4000000 in
set_option maxRecDepth 100000 in
theorem ab_3 {γ : kΓ} {l : Launch} {p : Program} {e : Env} {s : State} {m : MethodId} {below : List Frame} {meth : Method} {c : Code} {A : Nat → Prop} (h : Nat) (hg : Nat) (t2 : Int32) (t3 : Int32) (t4 : Int32) (t5 : Int32) (t6 : Int64) (t7 : Nat) (v : Int64) (n : Nat) (f : Nat → Int32) (hn : n ≤ 1000) (F : Nat) (hF : kad v 5 n = F) (hC : kC γ p s m [.ref h, .long v].toArray c cX8_addBytes 5 RX8 A) (hr : meth.sig.returnType = none) (hlocks : meth.locks = false) (H : Heap) (locs : List Loc) (hw : kW γ A [(h, .inr (8, [.ref hg, .int (nI n), .int t2, .int t3, .int t4, .int t5, .long t6, .ref t7])), (hg, .inl (γ.2.1 2, 1000, .inl f))] s H locs) (ls : Array Slot) (hl : lv_has ls 5 [(3, .int 32), (0, .ref h), (1, .long v)]) : W p l e ({ frames := 0, cells := 0, slots := 0, locals := 0 } : Room) s m [.ref h, .long v].toArray below meth c H locs 0 0 (MQ below (kQ γ A (fun r w1 => ∃ (f9 : Nat → Int32), r = none ∧ w1 = [(h, .inr (8, [.ref hg, .int (nI F), .int t2, .int t3, .int t4, .int t5, .long t6, .ref t7])), (hg, .inl (γ.2.1 2, 1000, .inl f9))])) [.ref h, .long v].toArray s 0 0 A) (F0 m 3 ls []) := by
  have hx := hC.1
  have hb := hC.2.1
  refine lv_iload_n hx hb dX8_addBytes_3 rfl (lv_at hl 0 rfl) ?_
  refine lv_if_lt (tgt := 76) hx hb dX8_addBytes_4 (by decide) (fun h => absurd h (by decide)) (fun _ => ?_)
  refine lv_lload_n hx hb dX8_addBytes_7 rfl (lv_at hl 2 rfl) ?_
  refine lv_iload_n hx hb dX8_addBytes_8 rfl (lv_at hl 0 rfl) ?_
  refine lv_lushr hx hb dX8_addBytes_9 rfl ?_
  refine lv_topl (fun x_1010 ex_1010 => ?_)
  refine lv_l2i hx hb dX8_addBytes_10 rfl ?_
  refine lv_topi (fun x_1011 ex_1011 => ?_)
  refine lv_sipush (v := 255) hx hb dX8_addBytes_11 (by decide) ?_
  refine lv_iand hx hb dX8_addBytes_14 ?_
  refine lv_topi (fun x_1012 ex_1012 => ?_)
  refine lv_istore (lv' := [(4, .int x_1012), (3, .int 32), (0, .ref h), (1, .long v)]) hx hb dX8_addBytes_15 hl (by decide) rfl (fun ls hl => ?_)
  have hk : x_1012 = kby v 32 := by rw [ex_1012, ex_1011, ex_1010]; rfl
  refine lv_iload hx hb dX8_addBytes_17 (lv_at hl 0 rfl) ?_
  refine lv_bipush (v := 10) hx hb dX8_addBytes_19 (by decide) ?_
  refine lv_icmp_eq (tgt := 38) hx hb dX8_addBytes_21 (by decide) (fun c21 => ?_) (fun c21 => ?_)
  · refine lv_aload_n hx hb dX8_addBytes_38 rfl (lv_at hl 2 rfl) ?_
    refine fg_RX8_24 hC hw 0 rfl rfl dX8_addBytes_39 ?_
    refine lv_sipush (v := 1000) hx hb dX8_addBytes_42 (by decide) ?_
    refine lv_icmp_ge (tgt := 70) hx hb dX8_addBytes_45 (by decide) (fun c45 => ?_) (fun c45 => ?_)
    · have hfull : ¬ n < 1000 := fun h9 => absurd c45 (nI_ge h9 (by decide))
      refine lv_iinc (v := 24) (lv' := [(3, .int 24), (4, .int x_1012), (0, .ref h), (1, .long v)]) hx hb dX8_addBytes_70 hl (k := 1) rfl (by decide) (by decide) rfl (fun ls hl => ?_)
      refine lv_goto (tgt := 3) hx hb dX8_addBytes_73 (by decide) ?_
      have hst : kst n (kby v 32) = n := by rw [← hk]; exact (by first | exact kst_a c21 hlt | exact kst_b c28 c35 hlt | exact kst_full hfull | exact kst_lo c21 c28 | exact kst_hi c21 c35)
      exact ab_4 h hg t2 t3 t4 t5 t6 t7 v n f (by omega) F (by have h9 : kad v 4 (kst n (kby v 32)) = F := hF; rw [hst] at h9; exact h9)  hC hr hlocks _ _ (kW.sub hw [0, 1] rfl rfl) _ (lv_sub hl [0, 2, 3] rfl)
    · have hlt : n < 1000 := by rcases Nat.lt_or_ge n 1000 with h9 | h9; exact h9; exact absurd (nI_le h9 (by omega)) c45
      refine lv_aload_n hx hb dX8_addBytes_48 rfl (lv_at hl 2 rfl) ?_
      refine fg_RX8_9 hC hw 0 rfl rfl dX8_addBytes_49 ?_
      refine lv_aload_n hx hb dX8_addBytes_52 rfl (lv_at hl 2 rfl) ?_
      refine fg_RX8_24 hC hw 0 rfl rfl dX8_addBytes_53 ?_
      refine lv_iload hx hb dX8_addBytes_56 (lv_at hl 0 rfl) ?_
      refine lv_i2b hx hb dX8_addBytes_58 rfl ?_
      refine lv_topi (fun x_1013 ex_1013 => ?_)
      refine k_bast hC hw 1 rfl (vp_in_nI hlt (by decide)) dX8_addBytes_59 (fun H locs hw => ?_)
      obtain ⟨f_1014, ef_1014⟩ : ∃ g, g = upd f ((nI n) : Int32).toNatClampNeg (vp_nar .byte x_1013) := ⟨_, rfl⟩
      have hw : kW γ A [(h, .inr (8, [.ref hg, .int (nI n), .int t2, .int t3, .int t4, .int t5, .long t6, .ref t7])), (hg, .inl (γ.2.1 2, 1000, .inl f_1014))] s H locs := by rw [ef_1014]; exact hw
      refine lv_aload_n hx hb dX8_addBytes_60 rfl (lv_at hl 2 rfl) ?_
      refine lv_dup hx hb dX8_addBytes_61 rfl ?_
      refine fg_RX8_24 hC hw 0 rfl rfl dX8_addBytes_62 ?_
      refine lv_iconst (v := 1) hx hb dX8_addBytes_65 (by decide) ?_
      refine lv_iadd hx hb dX8_addBytes_66 ?_
      refine lv_topi (fun x_1015 ex_1015 => ?_)
      obtain rfl : x_1015 = (nI (n + 1)) := ex_1015.trans (nI_1 n)
      refine fs_RX8_24 hC hw 0 rfl rfl rfl (Nat.le_of_ble_eq_true rfl) dX8_addBytes_67 (fun H locs hw => ?_)
      have hw : kW γ A [(h, .inr (8, [.ref hg, .int (nI (n + 1)), .int t2, .int t3, .int t4, .int t5, .long t6, .ref t7])), (hg, .inl (γ.2.1 2, 1000, .inl f_1014))] s H locs := hw
      refine lv_iinc (v := 24) (lv' := [(3, .int 24), (4, .int x_1012), (0, .ref h), (1, .long v)]) hx hb dX8_addBytes_70 hl (k := 1) rfl (by decide) (by decide) rfl (fun ls hl => ?_)
      refine lv_goto (tgt := 3) hx hb dX8_addBytes_73 (by decide) ?_
      have hst : kst n (kby v 32) = (n + 1) := by rw [← hk]; exact (by first | exact kst_a c21 hlt | exact kst_b c28 c35 hlt | exact kst_full hfull | exact kst_lo c21 c28 | exact kst_hi c21 c35)
      exact ab_4 h hg t2 t3 t4 t5 t6 t7 v (n + 1) f_1014 (by omega) F (by have h9 : kad v 4 (kst n (kby v 32)) = F := hF; rw [hst] at h9; exact h9)  hC hr hlocks _ _ (kW.sub hw [0, 1] rfl rfl) _ (lv_sub hl [0, 2, 3] rfl)
  · refine lv_iload hx hb dX8_addBytes_24 (lv_at hl 0 rfl) ?_
    refine lv_bipush (v := 32) hx hb dX8_addBytes_26 (by decide) ?_
    refine lv_icmp_lt (tgt := 70) hx hb dX8_addBytes_28 (by decide) (fun c28 => ?_) (fun c28 => ?_)
    · refine lv_iinc (v := 24) (lv' := [(3, .int 24), (4, .int x_1012), (0, .ref h), (1, .long v)]) hx hb dX8_addBytes_70 hl (k := 1) rfl (by decide) (by decide) rfl (fun ls hl => ?_)
      refine lv_goto (tgt := 3) hx hb dX8_addBytes_73 (by decide) ?_
      have hst : kst n (kby v 32) = n := by rw [← hk]; exact (by first | exact kst_a c21 hlt | exact kst_b c28 c35 hlt | exact kst_full hfull | exact kst_lo c21 c28 | exact kst_hi c21 c35)
      exact ab_4 h hg t2 t3 t4 t5 t6 t7 v n f (by omega) F (by have h9 : kad v 4 (kst n (kby v 32)) = F := hF; rw [hst] at h9; exact h9)  hC hr hlocks _ _ (kW.sub hw [0, 1] rfl rfl) _ (lv_sub hl [0, 2, 3] rfl)
    · refine lv_iload hx hb dX8_addBytes_31 (lv_at hl 0 rfl) ?_
      refine lv_bipush (v := 126) hx hb dX8_addBytes_33 (by decide) ?_
      refine lv_icmp_gt (tgt := 70) hx hb dX8_addBytes_35 (by decide) (fun c35 => ?_) (fun c35 => ?_)
      · refine lv_iinc (v := 24) (lv' := [(3, .int 24), (4, .int x_1012), (0, .ref h), (1, .long v)]) hx hb dX8_addBytes_70 hl (k := 1) rfl (by decide) (by decide) rfl (fun ls hl => ?_)
        refine lv_goto (tgt := 3) hx hb dX8_addBytes_73 (by decide) ?_
        have hst : kst n (kby v 32) = n := by rw [← hk]; exact (by first | exact kst_a c21 hlt | exact kst_b c28 c35 hlt | exact kst_full hfull | exact kst_lo c21 c28 | exact kst_hi c21 c35)
        exact ab_4 h hg t2 t3 t4 t5 t6 t7 v n f (by omega) F (by have h9 : kad v 4 (kst n (kby v 32)) = F := hF; rw [hst] at h9; exact h9)  hC hr hlocks _ _ (kW.sub hw [0, 1] rfl rfl) _ (lv_sub hl [0, 2, 3] rfl)
      · refine lv_aload_n hx hb dX8_addBytes_38 rfl (lv_at hl 2 rfl) ?_
        refine fg_RX8_24 hC hw 0 rfl rfl dX8_addBytes_39 ?_
        refine lv_sipush (v := 1000) hx hb dX8_addBytes_42 (by decide) ?_
        refine lv_icmp_ge (tgt := 70) hx hb dX8_addBytes_45 (by decide) (fun c45 => ?_) (fun c45 => ?_)
        · have hfull : ¬ n < 1000 := fun h9 => absurd c45 (nI_ge h9 (by decide))
          refine lv_iinc (v := 24) (lv' := [(3, .int 24), (4, .int x_1012), (0, .ref h), (1, .long v)]) hx hb dX8_addBytes_70 hl (k := 1) rfl (by decide) (by decide) rfl (fun ls hl => ?_)
          refine lv_goto (tgt := 3) hx hb dX8_addBytes_73 (by decide) ?_
          have hst : kst n (kby v 32) = n := by rw [← hk]; exact (by first | exact kst_a c21 hlt | exact kst_b c28 c35 hlt | exact kst_full hfull | exact kst_lo c21 c28 | exact kst_hi c21 c35)
          exact ab_4 h hg t2 t3 t4 t5 t6 t7 v n f (by omega) F (by have h9 : kad v 4 (kst n (kby v 32)) = F := hF; rw [hst] at h9; exact h9)  hC hr hlocks _ _ (kW.sub hw [0, 1] rfl rfl) _ (lv_sub hl [0, 2, 3] rfl)
        · have hlt : n < 1000 := by rcases Nat.lt_or_ge n 1000 with h9 | h9; exact h9; exact absurd (nI_le h9 (by omega)) c45
          refine lv_aload_n hx hb dX8_addBytes_48 rfl (lv_at hl 2 rfl) ?_
          refine fg_RX8_9 hC hw 0 rfl rfl dX8_addBytes_49 ?_
          refine lv_aload_n hx hb dX8_addBytes_52 rfl (lv_at hl 2 rfl) ?_
          refine fg_RX8_24 hC hw 0 rfl rfl dX8_addBytes_53 ?_
          refine lv_iload hx hb dX8_addBytes_56 (lv_at hl 0 rfl) ?_
          refine lv_i2b hx hb dX8_addBytes_58 rfl ?_
          refine lv_topi (fun x_1016 ex_1016 => ?_)
          refine k_bast hC hw 1 rfl (vp_in_nI hlt (by decide)) dX8_addBytes_59 (fun H locs hw => ?_)
          obtain ⟨f_1017, ef_1017⟩ : ∃ g, g = upd f ((nI n) : Int32).toNatClampNeg (vp_nar .byte x_1016) := ⟨_, rfl⟩
          have hw : kW γ A [(h, .inr (8, [.ref hg, .int (nI n), .int t2, .int t3, .int t4, .int t5, .long t6, .ref t7])), (hg, .inl (γ.2.1 2, 1000, .inl f_1017))] s H locs := by rw [ef_1017]; exact hw
          refine lv_aload_n hx hb dX8_addBytes_60 rfl (lv_at hl 2 rfl) ?_
          refine lv_dup hx hb dX8_addBytes_61 rfl ?_
          refine fg_RX8_24 hC hw 0 rfl rfl dX8_addBytes_62 ?_
          refine lv_iconst (v := 1) hx hb dX8_addBytes_65 (by decide) ?_
          refine lv_iadd hx hb dX8_addBytes_66 ?_
          refine lv_topi (fun x_1018 ex_1018 => ?_)
          obtain rfl : x_1018 = (nI (n + 1)) := ex_1018.trans (nI_1 n)
          refine fs_RX8_24 hC hw 0 rfl rfl rfl (Nat.le_of_ble_eq_true rfl) dX8_addBytes_67 (fun H locs hw => ?_)
          have hw : kW γ A [(h, .inr (8, [.ref hg, .int (nI (n + 1)), .int t2, .int t3, .int t4, .int t5, .long t6, .ref t7])), (hg, .inl (γ.2.1 2, 1000, .inl f_1017))] s H locs := hw
          refine lv_iinc (v := 24) (lv' := [(3, .int 24), (4, .int x_1012), (0, .ref h), (1, .long v)]) hx hb dX8_addBytes_70 hl (k := 1) rfl (by decide) (by decide) rfl (fun ls hl => ?_)
          refine lv_goto (tgt := 3) hx hb dX8_addBytes_73 (by decide) ?_
          have hst : kst n (kby v 32) = (n + 1) := by rw [← hk]; exact (by first | exact kst_a c21 hlt | exact kst_b c28 c35 hlt | exact kst_full hfull | exact kst_lo c21 c28 | exact kst_hi c21 c35)
          exact ab_4 h hg t2 t3 t4 t5 t6 t7 v (n + 1) f_1017 (by omega) F (by have h9 : kad v 4 (kst n (kby v 32)) = F := hF; rw [hst] at h9; exact h9)  hC hr hlocks _ _ (kW.sub hw [0, 1] rfl rfl) _ (lv_sub hl [0, 2, 3] rfl)

set_option maxHeartbeats 4000000 in
set_option maxRecDepth 100000 in
theorem ab_2 {γ : kΓ} {l : Launch} {p : Program} {e : Env} {s : State} {m : MethodId} {below : List Frame} {meth : Method} {c : Code} {A : Nat → Prop} (h : Nat) (hg : Nat) (t2 : Int32) (t3 : Int32) (t4 : Int32) (t5 : Int32) (t6 : Int64) (t7 : Nat) (v : Int64) (n : Nat) (f : Nat → Int32) (hn : n ≤ 1000) (F : Nat) (hF : kad v 6 n = F) (hC : kC γ p s m [.ref h, .long v].toArray c cX8_addBytes 5 RX8 A) (hr : meth.sig.returnType = none) (hlocks : meth.locks = false) (H : Heap) (locs : List Loc) (hw : kW γ A [(h, .inr (8, [.ref hg, .int (nI n), .int t2, .int t3, .int t4, .int t5, .long t6, .ref t7])), (hg, .inl (γ.2.1 2, 1000, .inl f))] s H locs) (ls : Array Slot) (hl : lv_has ls 5 [(3, .int 40), (0, .ref h), (1, .long v)]) : W p l e ({ frames := 0, cells := 0, slots := 0, locals := 0 } : Room) s m [.ref h, .long v].toArray below meth c H locs 0 0 (MQ below (kQ γ A (fun r w1 => ∃ (f9 : Nat → Int32), r = none ∧ w1 = [(h, .inr (8, [.ref hg, .int (nI F), .int t2, .int t3, .int t4, .int t5, .long t6, .ref t7])), (hg, .inl (γ.2.1 2, 1000, .inl f9))])) [.ref h, .long v].toArray s 0 0 A) (F0 m 3 ls []) := by
  have hx := hC.1
  have hb := hC.2.1
  refine lv_iload_n hx hb dX8_addBytes_3 rfl (lv_at hl 0 rfl) ?_
  refine lv_if_lt (tgt := 76) hx hb dX8_addBytes_4 (by decide) (fun h => absurd h (by decide)) (fun _ => ?_)
  refine lv_lload_n hx hb dX8_addBytes_7 rfl (lv_at hl 2 rfl) ?_
  refine lv_iload_n hx hb dX8_addBytes_8 rfl (lv_at hl 0 rfl) ?_
  refine lv_lushr hx hb dX8_addBytes_9 rfl ?_
  refine lv_topl (fun x_1019 ex_1019 => ?_)
  refine lv_l2i hx hb dX8_addBytes_10 rfl ?_
  refine lv_topi (fun x_1020 ex_1020 => ?_)
  refine lv_sipush (v := 255) hx hb dX8_addBytes_11 (by decide) ?_
  refine lv_iand hx hb dX8_addBytes_14 ?_
  refine lv_topi (fun x_1021 ex_1021 => ?_)
  refine lv_istore (lv' := [(4, .int x_1021), (3, .int 40), (0, .ref h), (1, .long v)]) hx hb dX8_addBytes_15 hl (by decide) rfl (fun ls hl => ?_)
  have hk : x_1021 = kby v 40 := by rw [ex_1021, ex_1020, ex_1019]; rfl
  refine lv_iload hx hb dX8_addBytes_17 (lv_at hl 0 rfl) ?_
  refine lv_bipush (v := 10) hx hb dX8_addBytes_19 (by decide) ?_
  refine lv_icmp_eq (tgt := 38) hx hb dX8_addBytes_21 (by decide) (fun c21 => ?_) (fun c21 => ?_)
  · refine lv_aload_n hx hb dX8_addBytes_38 rfl (lv_at hl 2 rfl) ?_
    refine fg_RX8_24 hC hw 0 rfl rfl dX8_addBytes_39 ?_
    refine lv_sipush (v := 1000) hx hb dX8_addBytes_42 (by decide) ?_
    refine lv_icmp_ge (tgt := 70) hx hb dX8_addBytes_45 (by decide) (fun c45 => ?_) (fun c45 => ?_)
    · have hfull : ¬ n < 1000 := fun h9 => absurd c45 (nI_ge h9 (by decide))
      refine lv_iinc (v := 32) (lv' := [(3, .int 32), (4, .int x_1021), (0, .ref h), (1, .long v)]) hx hb dX8_addBytes_70 hl (k := 1) rfl (by decide) (by decide) rfl (fun ls hl => ?_)
      refine lv_goto (tgt := 3) hx hb dX8_addBytes_73 (by decide) ?_
      have hst : kst n (kby v 40) = n := by rw [← hk]; exact (by first | exact kst_a c21 hlt | exact kst_b c28 c35 hlt | exact kst_full hfull | exact kst_lo c21 c28 | exact kst_hi c21 c35)
      exact ab_3 h hg t2 t3 t4 t5 t6 t7 v n f (by omega) F (by have h9 : kad v 5 (kst n (kby v 40)) = F := hF; rw [hst] at h9; exact h9)  hC hr hlocks _ _ (kW.sub hw [0, 1] rfl rfl) _ (lv_sub hl [0, 2, 3] rfl)
    · have hlt : n < 1000 := by rcases Nat.lt_or_ge n 1000 with h9 | h9; exact h9; exact absurd (nI_le h9 (by omega)) c45
      refine lv_aload_n hx hb dX8_addBytes_48 rfl (lv_at hl 2 rfl) ?_
      refine fg_RX8_9 hC hw 0 rfl rfl dX8_addBytes_49 ?_
      refine lv_aload_n hx hb dX8_addBytes_52 rfl (lv_at hl 2 rfl) ?_
      refine fg_RX8_24 hC hw 0 rfl rfl dX8_addBytes_53 ?_
      refine lv_iload hx hb dX8_addBytes_56 (lv_at hl 0 rfl) ?_
      refine lv_i2b hx hb dX8_addBytes_58 rfl ?_
      refine lv_topi (fun x_1022 ex_1022 => ?_)
      refine k_bast hC hw 1 rfl (vp_in_nI hlt (by decide)) dX8_addBytes_59 (fun H locs hw => ?_)
      obtain ⟨f_1023, ef_1023⟩ : ∃ g, g = upd f ((nI n) : Int32).toNatClampNeg (vp_nar .byte x_1022) := ⟨_, rfl⟩
      have hw : kW γ A [(h, .inr (8, [.ref hg, .int (nI n), .int t2, .int t3, .int t4, .int t5, .long t6, .ref t7])), (hg, .inl (γ.2.1 2, 1000, .inl f_1023))] s H locs := by rw [ef_1023]; exact hw
      refine lv_aload_n hx hb dX8_addBytes_60 rfl (lv_at hl 2 rfl) ?_
      refine lv_dup hx hb dX8_addBytes_61 rfl ?_
      refine fg_RX8_24 hC hw 0 rfl rfl dX8_addBytes_62 ?_
      refine lv_iconst (v := 1) hx hb dX8_addBytes_65 (by decide) ?_
      refine lv_iadd hx hb dX8_addBytes_66 ?_
      refine lv_topi (fun x_1024 ex_1024 => ?_)
      obtain rfl : x_1024 = (nI (n + 1)) := ex_1024.trans (nI_1 n)
      refine fs_RX8_24 hC hw 0 rfl rfl rfl (Nat.le_of_ble_eq_true rfl) dX8_addBytes_67 (fun H locs hw => ?_)
      have hw : kW γ A [(h, .inr (8, [.ref hg, .int (nI (n + 1)), .int t2, .int t3, .int t4, .int t5, .long t6, .ref t7])), (hg, .inl (γ.2.1 2, 1000, .inl f_1023))] s H locs := hw
      refine lv_iinc (v := 32) (lv' := [(3, .int 32), (4, .int x_1021), (0, .ref h), (1, .long v)]) hx hb dX8_addBytes_70 hl (k := 1) rfl (by decide) (by decide) rfl (fun ls hl => ?_)
      refine lv_goto (tgt := 3) hx hb dX8_addBytes_73 (by decide) ?_
      have hst : kst n (kby v 40) = (n + 1) := by rw [← hk]; exact (by first | exact kst_a c21 hlt | exact kst_b c28 c35 hlt | exact kst_full hfull | exact kst_lo c21 c28 | exact kst_hi c21 c35)
      exact ab_3 h hg t2 t3 t4 t5 t6 t7 v (n + 1) f_1023 (by omega) F (by have h9 : kad v 5 (kst n (kby v 40)) = F := hF; rw [hst] at h9; exact h9)  hC hr hlocks _ _ (kW.sub hw [0, 1] rfl rfl) _ (lv_sub hl [0, 2, 3] rfl)
  · refine lv_iload hx hb dX8_addBytes_24 (lv_at hl 0 rfl) ?_
    refine lv_bipush (v := 32) hx hb dX8_addBytes_26 (by decide) ?_
    refine lv_icmp_lt (tgt := 70) hx hb dX8_addBytes_28 (by decide) (fun c28 => ?_) (fun c28 => ?_)
    · refine lv_iinc (v := 32) (lv' := [(3, .int 32), (4, .int x_1021), (0, .ref h), (1, .long v)]) hx hb dX8_addBytes_70 hl (k := 1) rfl (by decide) (by decide) rfl (fun ls hl => ?_)
      refine lv_goto (tgt := 3) hx hb dX8_addBytes_73 (by decide) ?_
      have hst : kst n (kby v 40) = n := by rw [← hk]; exact (by first | exact kst_a c21 hlt | exact kst_b c28 c35 hlt | exact kst_full hfull | exact kst_lo c21 c28 | exact kst_hi c21 c35)
      exact ab_3 h hg t2 t3 t4 t5 t6 t7 v n f (by omega) F (by have h9 : kad v 5 (kst n (kby v 40)) = F := hF; rw [hst] at h9; exact h9)  hC hr hlocks _ _ (kW.sub hw [0, 1] rfl rfl) _ (lv_sub hl [0, 2, 3] rfl)
    · refine lv_iload hx hb dX8_addBytes_31 (lv_at hl 0 rfl) ?_
      refine lv_bipush (v := 126) hx hb dX8_addBytes_33 (by decide) ?_
      refine lv_icmp_gt (tgt := 70) hx hb dX8_addBytes_35 (by decide) (fun c35 => ?_) (fun c35 => ?_)
      · refine lv_iinc (v := 32) (lv' := [(3, .int 32), (4, .int x_1021), (0, .ref h), (1, .long v)]) hx hb dX8_addBytes_70 hl (k := 1) rfl (by decide) (by decide) rfl (fun ls hl => ?_)
        refine lv_goto (tgt := 3) hx hb dX8_addBytes_73 (by decide) ?_
        have hst : kst n (kby v 40) = n := by rw [← hk]; exact (by first | exact kst_a c21 hlt | exact kst_b c28 c35 hlt | exact kst_full hfull | exact kst_lo c21 c28 | exact kst_hi c21 c35)
        exact ab_3 h hg t2 t3 t4 t5 t6 t7 v n f (by omega) F (by have h9 : kad v 5 (kst n (kby v 40)) = F := hF; rw [hst] at h9; exact h9)  hC hr hlocks _ _ (kW.sub hw [0, 1] rfl rfl) _ (lv_sub hl [0, 2, 3] rfl)
      · refine lv_aload_n hx hb dX8_addBytes_38 rfl (lv_at hl 2 rfl) ?_
        refine fg_RX8_24 hC hw 0 rfl rfl dX8_addBytes_39 ?_
        refine lv_sipush (v := 1000) hx hb dX8_addBytes_42 (by decide) ?_
        refine lv_icmp_ge (tgt := 70) hx hb dX8_addBytes_45 (by decide) (fun c45 => ?_) (fun c45 => ?_)
        · have hfull : ¬ n < 1000 := fun h9 => absurd c45 (nI_ge h9 (by decide))
          refine lv_iinc (v := 32) (lv' := [(3, .int 32), (4, .int x_1021), (0, .ref h), (1, .long v)]) hx hb dX8_addBytes_70 hl (k := 1) rfl (by decide) (by decide) rfl (fun ls hl => ?_)
          refine lv_goto (tgt := 3) hx hb dX8_addBytes_73 (by decide) ?_
          have hst : kst n (kby v 40) = n := by rw [← hk]; exact (by first | exact kst_a c21 hlt | exact kst_b c28 c35 hlt | exact kst_full hfull | exact kst_lo c21 c28 | exact kst_hi c21 c35)
          exact ab_3 h hg t2 t3 t4 t5 t6 t7 v n f (by omega) F (by have h9 : kad v 5 (kst n (kby v 40)) = F := hF; rw [hst] at h9; exact h9)  hC hr hlocks _ _ (kW.sub hw [0, 1] rfl rfl) _ (lv_sub hl [0, 2, 3] rfl)
        · have hlt : n < 1000 := by rcases Nat.lt_or_ge n 1000 with h9 | h9; exact h9; exact absurd (nI_le h9 (by omega)) c45
          refine lv_aload_n hx hb dX8_addBytes_48 rfl (lv_at hl 2 rfl) ?_
          refine fg_RX8_9 hC hw 0 rfl rfl dX8_addBytes_49 ?_
          refine lv_aload_n hx hb dX8_addBytes_52 rfl (lv_at hl 2 rfl) ?_
          refine fg_RX8_24 hC hw 0 rfl rfl dX8_addBytes_53 ?_
          refine lv_iload hx hb dX8_addBytes_56 (lv_at hl 0 rfl) ?_
          refine lv_i2b hx hb dX8_addBytes_58 rfl ?_
          refine lv_topi (fun x_1025 ex_1025 => ?_)
          refine k_bast hC hw 1 rfl (vp_in_nI hlt (by decide)) dX8_addBytes_59 (fun H locs hw => ?_)
          obtain ⟨f_1026, ef_1026⟩ : ∃ g, g = upd f ((nI n) : Int32).toNatClampNeg (vp_nar .byte x_1025) := ⟨_, rfl⟩
          have hw : kW γ A [(h, .inr (8, [.ref hg, .int (nI n), .int t2, .int t3, .int t4, .int t5, .long t6, .ref t7])), (hg, .inl (γ.2.1 2, 1000, .inl f_1026))] s H locs := by rw [ef_1026]; exact hw
          refine lv_aload_n hx hb dX8_addBytes_60 rfl (lv_at hl 2 rfl) ?_
          refine lv_dup hx hb dX8_addBytes_61 rfl ?_
          refine fg_RX8_24 hC hw 0 rfl rfl dX8_addBytes_62 ?_
          refine lv_iconst (v := 1) hx hb dX8_addBytes_65 (by decide) ?_
          refine lv_iadd hx hb dX8_addBytes_66 ?_
          refine lv_topi (fun x_1027 ex_1027 => ?_)
          obtain rfl : x_1027 = (nI (n + 1)) := ex_1027.trans (nI_1 n)
          refine fs_RX8_24 hC hw 0 rfl rfl rfl (Nat.le_of_ble_eq_true rfl) dX8_addBytes_67 (fun H locs hw => ?_)
          have hw : kW γ A [(h, .inr (8, [.ref hg, .int (nI (n + 1)), .int t2, .int t3, .int t4, .int t5, .long t6, .ref t7])), (hg, .inl (γ.2.1 2, 1000, .inl f_1026))] s H locs := hw
          refine lv_iinc (v := 32) (lv' := [(3, .int 32), (4, .int x_1021), (0, .ref h), (1, .long v)]) hx hb dX8_addBytes_70 hl (k := 1) rfl (by decide) (by decide) rfl (fun ls hl => ?_)
          refine lv_goto (tgt := 3) hx hb dX8_addBytes_73 (by decide) ?_
          have hst : kst n (kby v 40) = (n + 1) := by rw [← hk]; exact (by first | exact kst_a c21 hlt | exact kst_b c28 c35 hlt | exact kst_full hfull | exact kst_lo c21 c28 | exact kst_hi c21 c35)
          exact ab_3 h hg t2 t3 t4 t5 t6 t7 v (n + 1) f_1026 (by omega) F (by have h9 : kad v 5 (kst n (kby v 40)) = F := hF; rw [hst] at h9; exact h9)  hC hr hlocks _ _ (kW.sub hw [0, 1] rfl rfl) _ (lv_sub hl [0, 2, 3] rfl)

set_option maxHeartbeats 4000000 in
set_option maxRecDepth 100000 in
theorem ab_1 {γ : kΓ} {l : Launch} {p : Program} {e : Env} {s : State} {m : MethodId} {below : List Frame} {meth : Method} {c : Code} {A : Nat → Prop} (h : Nat) (hg : Nat) (t2 : Int32) (t3 : Int32) (t4 : Int32) (t5 : Int32) (t6 : Int64) (t7 : Nat) (v : Int64) (n : Nat) (f : Nat → Int32) (hn : n ≤ 1000) (F : Nat) (hF : kad v 7 n = F) (hC : kC γ p s m [.ref h, .long v].toArray c cX8_addBytes 5 RX8 A) (hr : meth.sig.returnType = none) (hlocks : meth.locks = false) (H : Heap) (locs : List Loc) (hw : kW γ A [(h, .inr (8, [.ref hg, .int (nI n), .int t2, .int t3, .int t4, .int t5, .long t6, .ref t7])), (hg, .inl (γ.2.1 2, 1000, .inl f))] s H locs) (ls : Array Slot) (hl : lv_has ls 5 [(3, .int 48), (0, .ref h), (1, .long v)]) : W p l e ({ frames := 0, cells := 0, slots := 0, locals := 0 } : Room) s m [.ref h, .long v].toArray below meth c H locs 0 0 (MQ below (kQ γ A (fun r w1 => ∃ (f9 : Nat → Int32), r = none ∧ w1 = [(h, .inr (8, [.ref hg, .int (nI F), .int t2, .int t3, .int t4, .int t5, .long t6, .ref t7])), (hg, .inl (γ.2.1 2, 1000, .inl f9))])) [.ref h, .long v].toArray s 0 0 A) (F0 m 3 ls []) := by
  have hx := hC.1
  have hb := hC.2.1
  refine lv_iload_n hx hb dX8_addBytes_3 rfl (lv_at hl 0 rfl) ?_
  refine lv_if_lt (tgt := 76) hx hb dX8_addBytes_4 (by decide) (fun h => absurd h (by decide)) (fun _ => ?_)
  refine lv_lload_n hx hb dX8_addBytes_7 rfl (lv_at hl 2 rfl) ?_
  refine lv_iload_n hx hb dX8_addBytes_8 rfl (lv_at hl 0 rfl) ?_
  refine lv_lushr hx hb dX8_addBytes_9 rfl ?_
  refine lv_topl (fun x_1028 ex_1028 => ?_)
  refine lv_l2i hx hb dX8_addBytes_10 rfl ?_
  refine lv_topi (fun x_1029 ex_1029 => ?_)
  refine lv_sipush (v := 255) hx hb dX8_addBytes_11 (by decide) ?_
  refine lv_iand hx hb dX8_addBytes_14 ?_
  refine lv_topi (fun x_1030 ex_1030 => ?_)
  refine lv_istore (lv' := [(4, .int x_1030), (3, .int 48), (0, .ref h), (1, .long v)]) hx hb dX8_addBytes_15 hl (by decide) rfl (fun ls hl => ?_)
  have hk : x_1030 = kby v 48 := by rw [ex_1030, ex_1029, ex_1028]; rfl
  refine lv_iload hx hb dX8_addBytes_17 (lv_at hl 0 rfl) ?_
  refine lv_bipush (v := 10) hx hb dX8_addBytes_19 (by decide) ?_
  refine lv_icmp_eq (tgt := 38) hx hb dX8_addBytes_21 (by decide) (fun c21 => ?_) (fun c21 => ?_)
  · refine lv_aload_n hx hb dX8_addBytes_38 rfl (lv_at hl 2 rfl) ?_
    refine fg_RX8_24 hC hw 0 rfl rfl dX8_addBytes_39 ?_
    refine lv_sipush (v := 1000) hx hb dX8_addBytes_42 (by decide) ?_
    refine lv_icmp_ge (tgt := 70) hx hb dX8_addBytes_45 (by decide) (fun c45 => ?_) (fun c45 => ?_)
    · have hfull : ¬ n < 1000 := fun h9 => absurd c45 (nI_ge h9 (by decide))
      refine lv_iinc (v := 40) (lv' := [(3, .int 40), (4, .int x_1030), (0, .ref h), (1, .long v)]) hx hb dX8_addBytes_70 hl (k := 1) rfl (by decide) (by decide) rfl (fun ls hl => ?_)
      refine lv_goto (tgt := 3) hx hb dX8_addBytes_73 (by decide) ?_
      have hst : kst n (kby v 48) = n := by rw [← hk]; exact (by first | exact kst_a c21 hlt | exact kst_b c28 c35 hlt | exact kst_full hfull | exact kst_lo c21 c28 | exact kst_hi c21 c35)
      exact ab_2 h hg t2 t3 t4 t5 t6 t7 v n f (by omega) F (by have h9 : kad v 6 (kst n (kby v 48)) = F := hF; rw [hst] at h9; exact h9)  hC hr hlocks _ _ (kW.sub hw [0, 1] rfl rfl) _ (lv_sub hl [0, 2, 3] rfl)
    · have hlt : n < 1000 := by rcases Nat.lt_or_ge n 1000 with h9 | h9; exact h9; exact absurd (nI_le h9 (by omega)) c45
      refine lv_aload_n hx hb dX8_addBytes_48 rfl (lv_at hl 2 rfl) ?_
      refine fg_RX8_9 hC hw 0 rfl rfl dX8_addBytes_49 ?_
      refine lv_aload_n hx hb dX8_addBytes_52 rfl (lv_at hl 2 rfl) ?_
      refine fg_RX8_24 hC hw 0 rfl rfl dX8_addBytes_53 ?_
      refine lv_iload hx hb dX8_addBytes_56 (lv_at hl 0 rfl) ?_
      refine lv_i2b hx hb dX8_addBytes_58 rfl ?_
      refine lv_topi (fun x_1031 ex_1031 => ?_)
      refine k_bast hC hw 1 rfl (vp_in_nI hlt (by decide)) dX8_addBytes_59 (fun H locs hw => ?_)
      obtain ⟨f_1032, ef_1032⟩ : ∃ g, g = upd f ((nI n) : Int32).toNatClampNeg (vp_nar .byte x_1031) := ⟨_, rfl⟩
      have hw : kW γ A [(h, .inr (8, [.ref hg, .int (nI n), .int t2, .int t3, .int t4, .int t5, .long t6, .ref t7])), (hg, .inl (γ.2.1 2, 1000, .inl f_1032))] s H locs := by rw [ef_1032]; exact hw
      refine lv_aload_n hx hb dX8_addBytes_60 rfl (lv_at hl 2 rfl) ?_
      refine lv_dup hx hb dX8_addBytes_61 rfl ?_
      refine fg_RX8_24 hC hw 0 rfl rfl dX8_addBytes_62 ?_
      refine lv_iconst (v := 1) hx hb dX8_addBytes_65 (by decide) ?_
      refine lv_iadd hx hb dX8_addBytes_66 ?_
      refine lv_topi (fun x_1033 ex_1033 => ?_)
      obtain rfl : x_1033 = (nI (n + 1)) := ex_1033.trans (nI_1 n)
      refine fs_RX8_24 hC hw 0 rfl rfl rfl (Nat.le_of_ble_eq_true rfl) dX8_addBytes_67 (fun H locs hw => ?_)
      have hw : kW γ A [(h, .inr (8, [.ref hg, .int (nI (n + 1)), .int t2, .int t3, .int t4, .int t5, .long t6, .ref t7])), (hg, .inl (γ.2.1 2, 1000, .inl f_1032))] s H locs := hw
      refine lv_iinc (v := 40) (lv' := [(3, .int 40), (4, .int x_1030), (0, .ref h), (1, .long v)]) hx hb dX8_addBytes_70 hl (k := 1) rfl (by decide) (by decide) rfl (fun ls hl => ?_)
      refine lv_goto (tgt := 3) hx hb dX8_addBytes_73 (by decide) ?_
      have hst : kst n (kby v 48) = (n + 1) := by rw [← hk]; exact (by first | exact kst_a c21 hlt | exact kst_b c28 c35 hlt | exact kst_full hfull | exact kst_lo c21 c28 | exact kst_hi c21 c35)
      exact ab_2 h hg t2 t3 t4 t5 t6 t7 v (n + 1) f_1032 (by omega) F (by have h9 : kad v 6 (kst n (kby v 48)) = F := hF; rw [hst] at h9; exact h9)  hC hr hlocks _ _ (kW.sub hw [0, 1] rfl rfl) _ (lv_sub hl [0, 2, 3] rfl)
  · refine lv_iload hx hb dX8_addBytes_24 (lv_at hl 0 rfl) ?_
    refine lv_bipush (v := 32) hx hb dX8_addBytes_26 (by decide) ?_
    refine lv_icmp_lt (tgt := 70) hx hb dX8_addBytes_28 (by decide) (fun c28 => ?_) (fun c28 => ?_)
    · refine lv_iinc (v := 40) (lv' := [(3, .int 40), (4, .int x_1030), (0, .ref h), (1, .long v)]) hx hb dX8_addBytes_70 hl (k := 1) rfl (by decide) (by decide) rfl (fun ls hl => ?_)
      refine lv_goto (tgt := 3) hx hb dX8_addBytes_73 (by decide) ?_
      have hst : kst n (kby v 48) = n := by rw [← hk]; exact (by first | exact kst_a c21 hlt | exact kst_b c28 c35 hlt | exact kst_full hfull | exact kst_lo c21 c28 | exact kst_hi c21 c35)
      exact ab_2 h hg t2 t3 t4 t5 t6 t7 v n f (by omega) F (by have h9 : kad v 6 (kst n (kby v 48)) = F := hF; rw [hst] at h9; exact h9)  hC hr hlocks _ _ (kW.sub hw [0, 1] rfl rfl) _ (lv_sub hl [0, 2, 3] rfl)
    · refine lv_iload hx hb dX8_addBytes_31 (lv_at hl 0 rfl) ?_
      refine lv_bipush (v := 126) hx hb dX8_addBytes_33 (by decide) ?_
      refine lv_icmp_gt (tgt := 70) hx hb dX8_addBytes_35 (by decide) (fun c35 => ?_) (fun c35 => ?_)
      · refine lv_iinc (v := 40) (lv' := [(3, .int 40), (4, .int x_1030), (0, .ref h), (1, .long v)]) hx hb dX8_addBytes_70 hl (k := 1) rfl (by decide) (by decide) rfl (fun ls hl => ?_)
        refine lv_goto (tgt := 3) hx hb dX8_addBytes_73 (by decide) ?_
        have hst : kst n (kby v 48) = n := by rw [← hk]; exact (by first | exact kst_a c21 hlt | exact kst_b c28 c35 hlt | exact kst_full hfull | exact kst_lo c21 c28 | exact kst_hi c21 c35)
        exact ab_2 h hg t2 t3 t4 t5 t6 t7 v n f (by omega) F (by have h9 : kad v 6 (kst n (kby v 48)) = F := hF; rw [hst] at h9; exact h9)  hC hr hlocks _ _ (kW.sub hw [0, 1] rfl rfl) _ (lv_sub hl [0, 2, 3] rfl)
      · refine lv_aload_n hx hb dX8_addBytes_38 rfl (lv_at hl 2 rfl) ?_
        refine fg_RX8_24 hC hw 0 rfl rfl dX8_addBytes_39 ?_
        refine lv_sipush (v := 1000) hx hb dX8_addBytes_42 (by decide) ?_
        refine lv_icmp_ge (tgt := 70) hx hb dX8_addBytes_45 (by decide) (fun c45 => ?_) (fun c45 => ?_)
        · have hfull : ¬ n < 1000 := fun h9 => absurd c45 (nI_ge h9 (by decide))
          refine lv_iinc (v := 40) (lv' := [(3, .int 40), (4, .int x_1030), (0, .ref h), (1, .long v)]) hx hb dX8_addBytes_70 hl (k := 1) rfl (by decide) (by decide) rfl (fun ls hl => ?_)
          refine lv_goto (tgt := 3) hx hb dX8_addBytes_73 (by decide) ?_
          have hst : kst n (kby v 48) = n := by rw [← hk]; exact (by first | exact kst_a c21 hlt | exact kst_b c28 c35 hlt | exact kst_full hfull | exact kst_lo c21 c28 | exact kst_hi c21 c35)
          exact ab_2 h hg t2 t3 t4 t5 t6 t7 v n f (by omega) F (by have h9 : kad v 6 (kst n (kby v 48)) = F := hF; rw [hst] at h9; exact h9)  hC hr hlocks _ _ (kW.sub hw [0, 1] rfl rfl) _ (lv_sub hl [0, 2, 3] rfl)
        · have hlt : n < 1000 := by rcases Nat.lt_or_ge n 1000 with h9 | h9; exact h9; exact absurd (nI_le h9 (by omega)) c45
          refine lv_aload_n hx hb dX8_addBytes_48 rfl (lv_at hl 2 rfl) ?_
          refine fg_RX8_9 hC hw 0 rfl rfl dX8_addBytes_49 ?_
          refine lv_aload_n hx hb dX8_addBytes_52 rfl (lv_at hl 2 rfl) ?_
          refine fg_RX8_24 hC hw 0 rfl rfl dX8_addBytes_53 ?_
          refine lv_iload hx hb dX8_addBytes_56 (lv_at hl 0 rfl) ?_
          refine lv_i2b hx hb dX8_addBytes_58 rfl ?_
          refine lv_topi (fun x_1034 ex_1034 => ?_)
          refine k_bast hC hw 1 rfl (vp_in_nI hlt (by decide)) dX8_addBytes_59 (fun H locs hw => ?_)
          obtain ⟨f_1035, ef_1035⟩ : ∃ g, g = upd f ((nI n) : Int32).toNatClampNeg (vp_nar .byte x_1034) := ⟨_, rfl⟩
          have hw : kW γ A [(h, .inr (8, [.ref hg, .int (nI n), .int t2, .int t3, .int t4, .int t5, .long t6, .ref t7])), (hg, .inl (γ.2.1 2, 1000, .inl f_1035))] s H locs := by rw [ef_1035]; exact hw
          refine lv_aload_n hx hb dX8_addBytes_60 rfl (lv_at hl 2 rfl) ?_
          refine lv_dup hx hb dX8_addBytes_61 rfl ?_
          refine fg_RX8_24 hC hw 0 rfl rfl dX8_addBytes_62 ?_
          refine lv_iconst (v := 1) hx hb dX8_addBytes_65 (by decide) ?_
          refine lv_iadd hx hb dX8_addBytes_66 ?_
          refine lv_topi (fun x_1036 ex_1036 => ?_)
          obtain rfl : x_1036 = (nI (n + 1)) := ex_1036.trans (nI_1 n)
          refine fs_RX8_24 hC hw 0 rfl rfl rfl (Nat.le_of_ble_eq_true rfl) dX8_addBytes_67 (fun H locs hw => ?_)
          have hw : kW γ A [(h, .inr (8, [.ref hg, .int (nI (n + 1)), .int t2, .int t3, .int t4, .int t5, .long t6, .ref t7])), (hg, .inl (γ.2.1 2, 1000, .inl f_1035))] s H locs := hw
          refine lv_iinc (v := 40) (lv' := [(3, .int 40), (4, .int x_1030), (0, .ref h), (1, .long v)]) hx hb dX8_addBytes_70 hl (k := 1) rfl (by decide) (by decide) rfl (fun ls hl => ?_)
          refine lv_goto (tgt := 3) hx hb dX8_addBytes_73 (by decide) ?_
          have hst : kst n (kby v 48) = (n + 1) := by rw [← hk]; exact (by first | exact kst_a c21 hlt | exact kst_b c28 c35 hlt | exact kst_full hfull | exact kst_lo c21 c28 | exact kst_hi c21 c35)
          exact ab_2 h hg t2 t3 t4 t5 t6 t7 v (n + 1) f_1035 (by omega) F (by have h9 : kad v 6 (kst n (kby v 48)) = F := hF; rw [hst] at h9; exact h9)  hC hr hlocks _ _ (kW.sub hw [0, 1] rfl rfl) _ (lv_sub hl [0, 2, 3] rfl)

set_option maxHeartbeats 4000000 in
set_option maxRecDepth 100000 in
theorem ab_0 {γ : kΓ} {l : Launch} {p : Program} {e : Env} {s : State} {m : MethodId} {below : List Frame} {meth : Method} {c : Code} {A : Nat → Prop} (h : Nat) (hg : Nat) (t2 : Int32) (t3 : Int32) (t4 : Int32) (t5 : Int32) (t6 : Int64) (t7 : Nat) (v : Int64) (n : Nat) (f : Nat → Int32) (hn : n ≤ 1000) (F : Nat) (hF : kad v 8 n = F) (hC : kC γ p s m [.ref h, .long v].toArray c cX8_addBytes 5 RX8 A) (hr : meth.sig.returnType = none) (hlocks : meth.locks = false) (H : Heap) (locs : List Loc) (hw : kW γ A [(h, .inr (8, [.ref hg, .int (nI n), .int t2, .int t3, .int t4, .int t5, .long t6, .ref t7])), (hg, .inl (γ.2.1 2, 1000, .inl f))] s H locs) (ls : Array Slot) (hl : lv_has ls 5 [(3, .int 56), (0, .ref h), (1, .long v)]) : W p l e ({ frames := 0, cells := 0, slots := 0, locals := 0 } : Room) s m [.ref h, .long v].toArray below meth c H locs 0 0 (MQ below (kQ γ A (fun r w1 => ∃ (f9 : Nat → Int32), r = none ∧ w1 = [(h, .inr (8, [.ref hg, .int (nI F), .int t2, .int t3, .int t4, .int t5, .long t6, .ref t7])), (hg, .inl (γ.2.1 2, 1000, .inl f9))])) [.ref h, .long v].toArray s 0 0 A) (F0 m 3 ls []) := by
  have hx := hC.1
  have hb := hC.2.1
  refine lv_iload_n hx hb dX8_addBytes_3 rfl (lv_at hl 0 rfl) ?_
  refine lv_if_lt (tgt := 76) hx hb dX8_addBytes_4 (by decide) (fun h => absurd h (by decide)) (fun _ => ?_)
  refine lv_lload_n hx hb dX8_addBytes_7 rfl (lv_at hl 2 rfl) ?_
  refine lv_iload_n hx hb dX8_addBytes_8 rfl (lv_at hl 0 rfl) ?_
  refine lv_lushr hx hb dX8_addBytes_9 rfl ?_
  refine lv_topl (fun x_1037 ex_1037 => ?_)
  refine lv_l2i hx hb dX8_addBytes_10 rfl ?_
  refine lv_topi (fun x_1038 ex_1038 => ?_)
  refine lv_sipush (v := 255) hx hb dX8_addBytes_11 (by decide) ?_
  refine lv_iand hx hb dX8_addBytes_14 ?_
  refine lv_topi (fun x_1039 ex_1039 => ?_)
  refine lv_istore (lv' := [(4, .int x_1039), (3, .int 56), (0, .ref h), (1, .long v)]) hx hb dX8_addBytes_15 hl (by decide) rfl (fun ls hl => ?_)
  have hk : x_1039 = kby v 56 := by rw [ex_1039, ex_1038, ex_1037]; rfl
  refine lv_iload hx hb dX8_addBytes_17 (lv_at hl 0 rfl) ?_
  refine lv_bipush (v := 10) hx hb dX8_addBytes_19 (by decide) ?_
  refine lv_icmp_eq (tgt := 38) hx hb dX8_addBytes_21 (by decide) (fun c21 => ?_) (fun c21 => ?_)
  · refine lv_aload_n hx hb dX8_addBytes_38 rfl (lv_at hl 2 rfl) ?_
    refine fg_RX8_24 hC hw 0 rfl rfl dX8_addBytes_39 ?_
    refine lv_sipush (v := 1000) hx hb dX8_addBytes_42 (by decide) ?_
    refine lv_icmp_ge (tgt := 70) hx hb dX8_addBytes_45 (by decide) (fun c45 => ?_) (fun c45 => ?_)
    · have hfull : ¬ n < 1000 := fun h9 => absurd c45 (nI_ge h9 (by decide))
      refine lv_iinc (v := 48) (lv' := [(3, .int 48), (4, .int x_1039), (0, .ref h), (1, .long v)]) hx hb dX8_addBytes_70 hl (k := 1) rfl (by decide) (by decide) rfl (fun ls hl => ?_)
      refine lv_goto (tgt := 3) hx hb dX8_addBytes_73 (by decide) ?_
      have hst : kst n (kby v 56) = n := by rw [← hk]; exact (by first | exact kst_a c21 hlt | exact kst_b c28 c35 hlt | exact kst_full hfull | exact kst_lo c21 c28 | exact kst_hi c21 c35)
      exact ab_1 h hg t2 t3 t4 t5 t6 t7 v n f (by omega) F (by have h9 : kad v 7 (kst n (kby v 56)) = F := hF; rw [hst] at h9; exact h9)  hC hr hlocks _ _ (kW.sub hw [0, 1] rfl rfl) _ (lv_sub hl [0, 2, 3] rfl)
    · have hlt : n < 1000 := by rcases Nat.lt_or_ge n 1000 with h9 | h9; exact h9; exact absurd (nI_le h9 (by omega)) c45
      refine lv_aload_n hx hb dX8_addBytes_48 rfl (lv_at hl 2 rfl) ?_
      refine fg_RX8_9 hC hw 0 rfl rfl dX8_addBytes_49 ?_
      refine lv_aload_n hx hb dX8_addBytes_52 rfl (lv_at hl 2 rfl) ?_
      refine fg_RX8_24 hC hw 0 rfl rfl dX8_addBytes_53 ?_
      refine lv_iload hx hb dX8_addBytes_56 (lv_at hl 0 rfl) ?_
      refine lv_i2b hx hb dX8_addBytes_58 rfl ?_
      refine lv_topi (fun x_1040 ex_1040 => ?_)
      refine k_bast hC hw 1 rfl (vp_in_nI hlt (by decide)) dX8_addBytes_59 (fun H locs hw => ?_)
      obtain ⟨f_1041, ef_1041⟩ : ∃ g, g = upd f ((nI n) : Int32).toNatClampNeg (vp_nar .byte x_1040) := ⟨_, rfl⟩
      have hw : kW γ A [(h, .inr (8, [.ref hg, .int (nI n), .int t2, .int t3, .int t4, .int t5, .long t6, .ref t7])), (hg, .inl (γ.2.1 2, 1000, .inl f_1041))] s H locs := by rw [ef_1041]; exact hw
      refine lv_aload_n hx hb dX8_addBytes_60 rfl (lv_at hl 2 rfl) ?_
      refine lv_dup hx hb dX8_addBytes_61 rfl ?_
      refine fg_RX8_24 hC hw 0 rfl rfl dX8_addBytes_62 ?_
      refine lv_iconst (v := 1) hx hb dX8_addBytes_65 (by decide) ?_
      refine lv_iadd hx hb dX8_addBytes_66 ?_
      refine lv_topi (fun x_1042 ex_1042 => ?_)
      obtain rfl : x_1042 = (nI (n + 1)) := ex_1042.trans (nI_1 n)
      refine fs_RX8_24 hC hw 0 rfl rfl rfl (Nat.le_of_ble_eq_true rfl) dX8_addBytes_67 (fun H locs hw => ?_)
      have hw : kW γ A [(h, .inr (8, [.ref hg, .int (nI (n + 1)), .int t2, .int t3, .int t4, .int t5, .long t6, .ref t7])), (hg, .inl (γ.2.1 2, 1000, .inl f_1041))] s H locs := hw
      refine lv_iinc (v := 48) (lv' := [(3, .int 48), (4, .int x_1039), (0, .ref h), (1, .long v)]) hx hb dX8_addBytes_70 hl (k := 1) rfl (by decide) (by decide) rfl (fun ls hl => ?_)
      refine lv_goto (tgt := 3) hx hb dX8_addBytes_73 (by decide) ?_
      have hst : kst n (kby v 56) = (n + 1) := by rw [← hk]; exact (by first | exact kst_a c21 hlt | exact kst_b c28 c35 hlt | exact kst_full hfull | exact kst_lo c21 c28 | exact kst_hi c21 c35)
      exact ab_1 h hg t2 t3 t4 t5 t6 t7 v (n + 1) f_1041 (by omega) F (by have h9 : kad v 7 (kst n (kby v 56)) = F := hF; rw [hst] at h9; exact h9)  hC hr hlocks _ _ (kW.sub hw [0, 1] rfl rfl) _ (lv_sub hl [0, 2, 3] rfl)
  · refine lv_iload hx hb dX8_addBytes_24 (lv_at hl 0 rfl) ?_
    refine lv_bipush (v := 32) hx hb dX8_addBytes_26 (by decide) ?_
    refine lv_icmp_lt (tgt := 70) hx hb dX8_addBytes_28 (by decide) (fun c28 => ?_) (fun c28 => ?_)
    · refine lv_iinc (v := 48) (lv' := [(3, .int 48), (4, .int x_1039), (0, .ref h), (1, .long v)]) hx hb dX8_addBytes_70 hl (k := 1) rfl (by decide) (by decide) rfl (fun ls hl => ?_)
      refine lv_goto (tgt := 3) hx hb dX8_addBytes_73 (by decide) ?_
      have hst : kst n (kby v 56) = n := by rw [← hk]; exact (by first | exact kst_a c21 hlt | exact kst_b c28 c35 hlt | exact kst_full hfull | exact kst_lo c21 c28 | exact kst_hi c21 c35)
      exact ab_1 h hg t2 t3 t4 t5 t6 t7 v n f (by omega) F (by have h9 : kad v 7 (kst n (kby v 56)) = F := hF; rw [hst] at h9; exact h9)  hC hr hlocks _ _ (kW.sub hw [0, 1] rfl rfl) _ (lv_sub hl [0, 2, 3] rfl)
    · refine lv_iload hx hb dX8_addBytes_31 (lv_at hl 0 rfl) ?_
      refine lv_bipush (v := 126) hx hb dX8_addBytes_33 (by decide) ?_
      refine lv_icmp_gt (tgt := 70) hx hb dX8_addBytes_35 (by decide) (fun c35 => ?_) (fun c35 => ?_)
      · refine lv_iinc (v := 48) (lv' := [(3, .int 48), (4, .int x_1039), (0, .ref h), (1, .long v)]) hx hb dX8_addBytes_70 hl (k := 1) rfl (by decide) (by decide) rfl (fun ls hl => ?_)
        refine lv_goto (tgt := 3) hx hb dX8_addBytes_73 (by decide) ?_
        have hst : kst n (kby v 56) = n := by rw [← hk]; exact (by first | exact kst_a c21 hlt | exact kst_b c28 c35 hlt | exact kst_full hfull | exact kst_lo c21 c28 | exact kst_hi c21 c35)
        exact ab_1 h hg t2 t3 t4 t5 t6 t7 v n f (by omega) F (by have h9 : kad v 7 (kst n (kby v 56)) = F := hF; rw [hst] at h9; exact h9)  hC hr hlocks _ _ (kW.sub hw [0, 1] rfl rfl) _ (lv_sub hl [0, 2, 3] rfl)
      · refine lv_aload_n hx hb dX8_addBytes_38 rfl (lv_at hl 2 rfl) ?_
        refine fg_RX8_24 hC hw 0 rfl rfl dX8_addBytes_39 ?_
        refine lv_sipush (v := 1000) hx hb dX8_addBytes_42 (by decide) ?_
        refine lv_icmp_ge (tgt := 70) hx hb dX8_addBytes_45 (by decide) (fun c45 => ?_) (fun c45 => ?_)
        · have hfull : ¬ n < 1000 := fun h9 => absurd c45 (nI_ge h9 (by decide))
          refine lv_iinc (v := 48) (lv' := [(3, .int 48), (4, .int x_1039), (0, .ref h), (1, .long v)]) hx hb dX8_addBytes_70 hl (k := 1) rfl (by decide) (by decide) rfl (fun ls hl => ?_)
          refine lv_goto (tgt := 3) hx hb dX8_addBytes_73 (by decide) ?_
          have hst : kst n (kby v 56) = n := by rw [← hk]; exact (by first | exact kst_a c21 hlt | exact kst_b c28 c35 hlt | exact kst_full hfull | exact kst_lo c21 c28 | exact kst_hi c21 c35)
          exact ab_1 h hg t2 t3 t4 t5 t6 t7 v n f (by omega) F (by have h9 : kad v 7 (kst n (kby v 56)) = F := hF; rw [hst] at h9; exact h9)  hC hr hlocks _ _ (kW.sub hw [0, 1] rfl rfl) _ (lv_sub hl [0, 2, 3] rfl)
        · have hlt : n < 1000 := by rcases Nat.lt_or_ge n 1000 with h9 | h9; exact h9; exact absurd (nI_le h9 (by omega)) c45
          refine lv_aload_n hx hb dX8_addBytes_48 rfl (lv_at hl 2 rfl) ?_
          refine fg_RX8_9 hC hw 0 rfl rfl dX8_addBytes_49 ?_
          refine lv_aload_n hx hb dX8_addBytes_52 rfl (lv_at hl 2 rfl) ?_
          refine fg_RX8_24 hC hw 0 rfl rfl dX8_addBytes_53 ?_
          refine lv_iload hx hb dX8_addBytes_56 (lv_at hl 0 rfl) ?_
          refine lv_i2b hx hb dX8_addBytes_58 rfl ?_
          refine lv_topi (fun x_1043 ex_1043 => ?_)
          refine k_bast hC hw 1 rfl (vp_in_nI hlt (by decide)) dX8_addBytes_59 (fun H locs hw => ?_)
          obtain ⟨f_1044, ef_1044⟩ : ∃ g, g = upd f ((nI n) : Int32).toNatClampNeg (vp_nar .byte x_1043) := ⟨_, rfl⟩
          have hw : kW γ A [(h, .inr (8, [.ref hg, .int (nI n), .int t2, .int t3, .int t4, .int t5, .long t6, .ref t7])), (hg, .inl (γ.2.1 2, 1000, .inl f_1044))] s H locs := by rw [ef_1044]; exact hw
          refine lv_aload_n hx hb dX8_addBytes_60 rfl (lv_at hl 2 rfl) ?_
          refine lv_dup hx hb dX8_addBytes_61 rfl ?_
          refine fg_RX8_24 hC hw 0 rfl rfl dX8_addBytes_62 ?_
          refine lv_iconst (v := 1) hx hb dX8_addBytes_65 (by decide) ?_
          refine lv_iadd hx hb dX8_addBytes_66 ?_
          refine lv_topi (fun x_1045 ex_1045 => ?_)
          obtain rfl : x_1045 = (nI (n + 1)) := ex_1045.trans (nI_1 n)
          refine fs_RX8_24 hC hw 0 rfl rfl rfl (Nat.le_of_ble_eq_true rfl) dX8_addBytes_67 (fun H locs hw => ?_)
          have hw : kW γ A [(h, .inr (8, [.ref hg, .int (nI (n + 1)), .int t2, .int t3, .int t4, .int t5, .long t6, .ref t7])), (hg, .inl (γ.2.1 2, 1000, .inl f_1044))] s H locs := hw
          refine lv_iinc (v := 48) (lv' := [(3, .int 48), (4, .int x_1039), (0, .ref h), (1, .long v)]) hx hb dX8_addBytes_70 hl (k := 1) rfl (by decide) (by decide) rfl (fun ls hl => ?_)
          refine lv_goto (tgt := 3) hx hb dX8_addBytes_73 (by decide) ?_
          have hst : kst n (kby v 56) = (n + 1) := by rw [← hk]; exact (by first | exact kst_a c21 hlt | exact kst_b c28 c35 hlt | exact kst_full hfull | exact kst_lo c21 c28 | exact kst_hi c21 c35)
          exact ab_1 h hg t2 t3 t4 t5 t6 t7 v (n + 1) f_1044 (by omega) F (by have h9 : kad v 7 (kst n (kby v 56)) = F := hF; rw [hst] at h9; exact h9)  hC hr hlocks _ _ (kW.sub hw [0, 1] rfl rfl) _ (lv_sub hl [0, 2, 3] rfl)

set_option maxHeartbeats 4000000 in
set_option maxRecDepth 100000 in
theorem c_X8_addBytes (γ : kΓ) (l : Launch) (h : Nat) (hg : Nat) (t2 : Int32) (t3 : Int32) (t4 : Int32) (t5 : Int32) (t6 : Int64) (t7 : Nat) (v : Int64) (n : Nat) (f : Nat → Int32) (hn : n ≤ 1000) : kM γ l yX8_addBytes cX8_addBytes 5 none ({ frames := 0, cells := 0, slots := 0, locals := 0 } : Room) [.ref h, .long v] [(h, .inr (8, [.ref hg, .int (nI n), .int t2, .int t3, .int t4, .int t5, .long t6, .ref t7])), (hg, .inl (γ.2.1 2, 1000, .inl f))] (fun r w1 => ∃ (f9 : Nat → Int32), r = none ∧ w1 = [(h, .inr (8, [.ref hg, .int (nI (kad v 8 n)), .int t2, .int t3, .int t4, .int t5, .long t6, .ref t7])), (hg, .inl (γ.2.1 2, 1000, .inl f9))]) := by
  refine k_ofW (by decide) (Nat.le_of_ble_eq_true rfl) ?_
  intro p e s m below meth c A ls hC hr hlocks hname hw hl
  have hx := hC.1
  have hb := hC.2.1
  have hl : lv_has ls 5 [(0, .ref h), (1, .long v)] := hl
  refine lv_bipush (v := 56) hx hb dX8_addBytes_0 (by decide) ?_
  refine lv_istore_n (lv' := [(3, .int 56), (0, .ref h), (1, .long v)]) hx hb dX8_addBytes_2 rfl hl (by decide) rfl (fun ls hl => ?_)
  exact ab_0 h hg t2 t3 t4 t5 t6 t7 v n f hn _ rfl hC hr hlocks _ _ (kW.sub hw [0, 1] rfl rfl) _ (lv_sub hl [0, 1, 2] rfl)

set_option maxHeartbeats 4000000 in
set_option maxRecDepth 100000 in
theorem c_X11_feed (γ : kΓ) (l : Launch) (x : Nat) (x0 : Nat) (x1 : Nat) (x2 : Nat) (x3 : Nat) (x4 : Nat) (x5 : Nat) (x6 : Nat) (x7 : Nat) (x8 : Nat) (x9 : Nat) (x10 : Nat) (x0g : Nat) (f : Nat → Int32) (va : Int64) (vb : Int64) (vc : Int64) : kM γ l yX11_feed cX11_feed 7 ((some .int)) ({ frames := 1, cells := 0, slots := 0, locals := 24 } : Room) [.ref x, .long va, .long vb, .long vc] [(x, .inr (10, [.ref x0, .ref x1, .ref x2, .ref x3, .ref x4, .ref x5, .ref x6, .ref x7, .ref x8, .ref x9, .ref x10])), (x0, .inr (8, [.ref x0g, .int 0, .int 0, .int 0, .int 0, .int 0, .long 0, .ref γ.2.2.2])), (x0g, .inl (γ.2.1 2, 1000, .inl f))] (fun r w1 => r = some (.int (nI (kad vc 8 (kad vb 8 (kad va 8 0))))) ∧ w1 = []) := by
  refine k_ofW (by decide) (Nat.le_of_ble_eq_true rfl) ?_
  intro p e s m below meth c A ls hC hr hlocks hname hw hl
  have hx := hC.1
  have hb := hC.2.1
  have hl : lv_has ls 7 [(0, .ref x), (1, .long va), (3, .long vb), (5, .long vc)] := hl
  refine lv_aload_n hx hb dX11_feed_0 rfl (lv_at hl 0 rfl) ?_
  refine fg_RX11_10 hC hw 0 rfl rfl dX11_feed_1 ?_
  refine lv_lload_n hx hb dX11_feed_4 rfl (lv_at hl 1 rfl) ?_
  refine k_V (wr := [(x, .inr (10, [.ref x0, .ref x1, .ref x2, .ref x3, .ref x4, .ref x5, .ref x6, .ref x7, .ref x8, .ref x9, .ref x10]))]) 1 gw_439 gw_440 gw_441 gw_2 gw_442 hd_X8_addBytes hC hw (c_X8_addBytes γ l x0 x0g 0 0 0 0 0 γ.2.2.2 va 0 f (by decide)) ⟨by decide, by decide⟩ ⟨by decide, by decide⟩ hl.1 rfl 1 rfl rfl rfl (Nat.le_of_ble_eq_true rfl) [1, 2] [0] rfl rfl rfl rfl (by decide) dX11_feed_5 (fun r w1 H locs hq hw => ?_)
  obtain ⟨f9_1046, rfl, rfl⟩ := hq
  have hw : kW γ A [(x, .inr (10, [.ref x0, .ref x1, .ref x2, .ref x3, .ref x4, .ref x5, .ref x6, .ref x7, .ref x8, .ref x9, .ref x10])), (x0, .inr (8, [.ref x0g, .int (nI (kad va 8 0)), .int 0, .int 0, .int 0, .int 0, .long 0, .ref γ.2.2.2])), (x0g, .inl (γ.2.1 2, 1000, .inl f9_1046))] s H locs := hw
  refine W.eq (g2 := F0 m 8 ls []) rfl ?_
  refine lv_aload_n hx hb dX11_feed_8 rfl (lv_at hl 0 rfl) ?_
  refine fg_RX11_10 hC hw 0 rfl rfl dX11_feed_9 ?_
  refine lv_lload_n hx hb dX11_feed_12 rfl (lv_at hl 2 rfl) ?_
  refine k_V (wr := [(x, .inr (10, [.ref x0, .ref x1, .ref x2, .ref x3, .ref x4, .ref x5, .ref x6, .ref x7, .ref x8, .ref x9, .ref x10]))]) 1 gw_439 gw_440 gw_441 gw_2 gw_442 hd_X8_addBytes hC hw (c_X8_addBytes γ l x0 x0g 0 0 0 0 0 γ.2.2.2 vb (kad va 8 0) f9_1046 (kad_le va 8 0 (by decide))) ⟨by decide, by decide⟩ ⟨by decide, by decide⟩ hl.1 rfl 1 rfl rfl rfl (Nat.le_of_ble_eq_true rfl) [1, 2] [0] rfl rfl rfl rfl (by decide) dX11_feed_13 (fun r w1 H locs hq hw => ?_)
  obtain ⟨f9_1047, rfl, rfl⟩ := hq
  have hw : kW γ A [(x, .inr (10, [.ref x0, .ref x1, .ref x2, .ref x3, .ref x4, .ref x5, .ref x6, .ref x7, .ref x8, .ref x9, .ref x10])), (x0, .inr (8, [.ref x0g, .int (nI (kad vb 8 (kad va 8 0))), .int 0, .int 0, .int 0, .int 0, .long 0, .ref γ.2.2.2])), (x0g, .inl (γ.2.1 2, 1000, .inl f9_1047))] s H locs := hw
  refine W.eq (g2 := F0 m 16 ls []) rfl ?_
  refine lv_aload_n hx hb dX11_feed_16 rfl (lv_at hl 0 rfl) ?_
  refine fg_RX11_10 hC hw 0 rfl rfl dX11_feed_17 ?_
  refine lv_lload hx hb dX11_feed_20 (lv_at hl 3 rfl) ?_
  refine k_V (wr := [(x, .inr (10, [.ref x0, .ref x1, .ref x2, .ref x3, .ref x4, .ref x5, .ref x6, .ref x7, .ref x8, .ref x9, .ref x10]))]) 1 gw_439 gw_440 gw_441 gw_2 gw_442 hd_X8_addBytes hC hw (c_X8_addBytes γ l x0 x0g 0 0 0 0 0 γ.2.2.2 vc (kad vb 8 (kad va 8 0)) f9_1047 (kad_le vb 8 _ (kad_le va 8 0 (by decide)))) ⟨by decide, by decide⟩ ⟨by decide, by decide⟩ hl.1 rfl 1 rfl rfl rfl (Nat.le_of_ble_eq_true rfl) [1, 2] [0] rfl rfl rfl rfl (by decide) dX11_feed_22 (fun r w1 H locs hq hw => ?_)
  obtain ⟨f9_1048, rfl, rfl⟩ := hq
  have hw : kW γ A [(x, .inr (10, [.ref x0, .ref x1, .ref x2, .ref x3, .ref x4, .ref x5, .ref x6, .ref x7, .ref x8, .ref x9, .ref x10])), (x0, .inr (8, [.ref x0g, .int (nI (kad vc 8 (kad vb 8 (kad va 8 0)))), .int 0, .int 0, .int 0, .int 0, .long 0, .ref γ.2.2.2])), (x0g, .inl (γ.2.1 2, 1000, .inl f9_1048))] s H locs := hw
  refine W.eq (g2 := F0 m 25 ls []) rfl ?_
  refine lv_aload_n hx hb dX11_feed_25 rfl (lv_at hl 0 rfl) ?_
  refine fg_RX11_10 hC hw 0 rfl rfl dX11_feed_26 ?_
  refine fg_RX11_85 hC hw 1 rfl rfl dX11_feed_29 ?_
  exact k_iret hC hr hlocks hw [] rfl rfl ⟨rfl, rfl⟩ (by decide) (by decide) dX11_feed_32


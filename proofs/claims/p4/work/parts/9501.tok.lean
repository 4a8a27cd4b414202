theorem dX8_readLetters_0 : decode cX8_readLetters 0 = .ok (.aload_n 0, 1) := by decide +kernel
theorem dX8_readLetters_1 : decode cX8_readLetters 1 = .ok (.lconst 0, 1) := by decide +kernel
theorem dX8_readLetters_2 : decode cX8_readLetters 2 = .ok (.putfield 43, 3) := by decide +kernel
theorem dX8_readLetters_5 : decode cX8_readLetters 5 = .ok (.aload_n 0, 1) := by decide +kernel
theorem dX8_readLetters_6 : decode cX8_readLetters 6 = .ok (.getfield 28, 3) := by decide +kernel
theorem dX8_readLetters_9 : decode cX8_readLetters 9 = .ok (.aload_n 0, 1) := by decide +kernel
theorem dX8_readLetters_10 : decode cX8_readLetters 10 = .ok (.getfield 24, 3) := by decide +kernel
theorem dX8_readLetters_13 : decode cX8_readLetters 13 = .ok (.if_icmp .ge 70, 3) := by decide +kernel
theorem dX8_readLetters_16 : decode cX8_readLetters 16 = .ok (.aload_n 0, 1) := by decide +kernel
theorem dX8_readLetters_17 : decode cX8_readLetters 17 = .ok (.getfield 9, 3) := by decide +kernel
theorem dX8_readLetters_20 : decode cX8_readLetters 20 = .ok (.aload_n 0, 1) := by decide +kernel
theorem dX8_readLetters_21 : decode cX8_readLetters 21 = .ok (.getfield 28, 3) := by decide +kernel
theorem dX8_readLetters_24 : decode cX8_readLetters 24 = .ok (.baload, 1) := by decide +kernel
theorem dX8_readLetters_25 : decode cX8_readLetters 25 = .ok (.bipush 97, 2) := by decide +kernel
theorem dX8_readLetters_27 : decode cX8_readLetters 27 = .ok (.if_icmp .lt 56, 3) := by decide +kernel
theorem dX8_readLetters_30 : decode cX8_readLetters 30 = .ok (.aload_n 0, 1) := by decide +kernel
theorem dX8_readLetters_31 : decode cX8_readLetters 31 = .ok (.getfield 9, 3) := by decide +kernel
theorem dX8_readLetters_34 : decode cX8_readLetters 34 = .ok (.aload_n 0, 1) := by decide +kernel
theorem dX8_readLetters_35 : decode cX8_readLetters 35 = .ok (.getfield 28, 3) := by decide +kernel
theorem dX8_readLetters_38 : decode cX8_readLetters 38 = .ok (.baload, 1) := by decide +kernel
theorem dX8_readLetters_39 : decode cX8_readLetters 39 = .ok (.bipush 122, 2) := by decide +kernel
theorem dX8_readLetters_41 : decode cX8_readLetters 41 = .ok (.if_icmp .gt 42, 3) := by decide +kernel
theorem dX8_readLetters_44 : decode cX8_readLetters 44 = .ok (.aload_n 0, 1) := by decide +kernel
theorem dX8_readLetters_45 : decode cX8_readLetters 45 = .ok (.aload_n 0, 1) := by decide +kernel
theorem dX8_readLetters_46 : decode cX8_readLetters 46 = .ok (.getfield 43, 3) := by decide +kernel
theorem dX8_readLetters_49 : decode cX8_readLetters 49 = .ok (.ldc2_w 58, 3) := by decide +kernel
theorem dX8_readLetters_52 : decode cX8_readLetters 52 = .ok (.lmul, 1) := by decide +kernel
theorem dX8_readLetters_53 : decode cX8_readLetters 53 = .ok (.aload_n 0, 1) := by decide +kernel
theorem dX8_readLetters_54 : decode cX8_readLetters 54 = .ok (.getfield 9, 3) := by decide +kernel
theorem dX8_readLetters_57 : decode cX8_readLetters 57 = .ok (.aload_n 0, 1) := by decide +kernel
theorem dX8_readLetters_58 : decode cX8_readLetters 58 = .ok (.getfield 28, 3) := by decide +kernel
theorem dX8_readLetters_61 : decode cX8_readLetters 61 = .ok (.baload, 1) := by decide +kernel
theorem dX8_readLetters_62 : decode cX8_readLetters 62 = .ok (.bipush 96, 2) := by decide +kernel
theorem dX8_readLetters_64 : decode cX8_readLetters 64 = .ok (.isub, 1) := by decide +kernel
theorem dX8_readLetters_65 : decode cX8_readLetters 65 = .ok (.i2l, 1) := by decide +kernel
theorem dX8_readLetters_66 : decode cX8_readLetters 66 = .ok (.ladd, 1) := by decide +kernel
theorem dX8_readLetters_67 : decode cX8_readLetters 67 = .ok (.putfield 43, 3) := by decide +kernel
theorem dX8_readLetters_70 : decode cX8_readLetters 70 = .ok (.aload_n 0, 1) := by decide +kernel
theorem dX8_readLetters_71 : decode cX8_readLetters 71 = .ok (.dup, 1) := by decide +kernel
theorem dX8_readLetters_72 : decode cX8_readLetters 72 = .ok (.getfield 28, 3) := by decide +kernel
theorem dX8_readLetters_75 : decode cX8_readLetters 75 = .ok (.iconst 1, 1) := by decide +kernel
theorem dX8_readLetters_76 : decode cX8_readLetters 76 = .ok (.iadd, 1) := by decide +kernel
theorem dX8_readLetters_77 : decode cX8_readLetters 77 = .ok (.putfield 28, 3) := by decide +kernel
theorem dX8_readLetters_80 : decode cX8_readLetters 80 = .ok (.goto (-75), 3) := by decide +kernel
theorem dX8_readLetters_83 : decode cX8_readLetters 83 = .ok (.return_, 1) := by decide +kernel
theorem dX8_readDigits_0 : decode cX8_readDigits 0 = .ok (.aload_n 0, 1) := by decide +kernel
theorem dX8_readDigits_1 : decode cX8_readDigits 1 = .ok (.iconst 0, 1) := by decide +kernel
theorem dX8_readDigits_2 : decode cX8_readDigits 2 = .ok (.putfield 60, 3) := by decide +kernel
theorem dX8_readDigits_5 : decode cX8_readDigits 5 = .ok (.aload_n 0, 1) := by decide +kernel
theorem dX8_readDigits_6 : decode cX8_readDigits 6 = .ok (.getfield 28, 3) := by decide +kernel
theorem dX8_readDigits_9 : decode cX8_readDigits 9 = .ok (.aload_n 0, 1) := by decide +kernel
theorem dX8_readDigits_10 : decode cX8_readDigits 10 = .ok (.getfield 24, 3) := by decide +kernel
theorem dX8_readDigits_13 : decode cX8_readDigits 13 = .ok (.if_icmp .ge 68, 3) := by decide +kernel
theorem dX8_readDigits_16 : decode cX8_readDigits 16 = .ok (.aload_n 0, 1) := by decide +kernel
theorem dX8_readDigits_17 : decode cX8_readDigits 17 = .ok (.getfield 9, 3) := by decide +kernel
theorem dX8_readDigits_20 : decode cX8_readDigits 20 = .ok (.aload_n 0, 1) := by decide +kernel
theorem dX8_readDigits_21 : decode cX8_readDigits 21 = .ok (.getfield 28, 3) := by decide +kernel
theorem dX8_readDigits_24 : decode cX8_readDigits 24 = .ok (.baload, 1) := by decide +kernel
theorem dX8_readDigits_25 : decode cX8_readDigits 25 = .ok (.bipush 48, 2) := by decide +kernel
theorem dX8_readDigits_27 : decode cX8_readDigits 27 = .ok (.if_icmp .lt 54, 3) := by decide +kernel
theorem dX8_readDigits_30 : decode cX8_readDigits 30 = .ok (.aload_n 0, 1) := by decide +kernel
theorem dX8_readDigits_31 : decode cX8_readDigits 31 = .ok (.getfield 9, 3) := by decide +kernel
theorem dX8_readDigits_34 : decode cX8_readDigits 34 = .ok (.aload_n 0, 1) := by decide +kernel
theorem dX8_readDigits_35 : decode cX8_readDigits 35 = .ok (.getfield 28, 3) := by decide +kernel
theorem dX8_readDigits_38 : decode cX8_readDigits 38 = .ok (.baload, 1) := by decide +kernel
theorem dX8_readDigits_39 : decode cX8_readDigits 39 = .ok (.bipush 57, 2) := by decide +kernel
theorem dX8_readDigits_41 : decode cX8_readDigits 41 = .ok (.if_icmp .gt 40, 3) := by decide +kernel
theorem dX8_readDigits_44 : decode cX8_readDigits 44 = .ok (.aload_n 0, 1) := by decide +kernel
theorem dX8_readDigits_45 : decode cX8_readDigits 45 = .ok (.aload_n 0, 1) := by decide +kernel
theorem dX8_readDigits_46 : decode cX8_readDigits 46 = .ok (.getfield 60, 3) := by decide +kernel
theorem dX8_readDigits_49 : decode cX8_readDigits 49 = .ok (.bipush 10, 2) := by decide +kernel
theorem dX8_readDigits_51 : decode cX8_readDigits 51 = .ok (.imul, 1) := by decide +kernel
theorem dX8_readDigits_52 : decode cX8_readDigits 52 = .ok (.aload_n 0, 1) := by decide +kernel
theorem dX8_readDigits_53 : decode cX8_readDigits 53 = .ok (.getfield 9, 3) := by decide +kernel
theorem dX8_readDigits_56 : decode cX8_readDigits 56 = .ok (.aload_n 0, 1) := by decide +kernel
theorem dX8_readDigits_57 : decode cX8_readDigits 57 = .ok (.getfield 28, 3) := by decide +kernel
theorem dX8_readDigits_60 : decode cX8_readDigits 60 = .ok (.baload, 1) := by decide +kernel
theorem dX8_readDigits_61 : decode cX8_readDigits 61 = .ok (.bipush 48, 2) := by decide +kernel
theorem dX8_readDigits_63 : decode cX8_readDigits 63 = .ok (.isub, 1) := by decide +kernel
theorem dX8_readDigits_64 : decode cX8_readDigits 64 = .ok (.iadd, 1) := by decide +kernel
theorem dX8_readDigits_65 : decode cX8_readDigits 65 = .ok (.putfield 60, 3) := by decide +kernel
theorem dX8_readDigits_68 : decode cX8_readDigits 68 = .ok (.aload_n 0, 1) := by decide +kernel
theorem dX8_readDigits_69 : decode cX8_readDigits 69 = .ok (.dup, 1) := by decide +kernel
theorem dX8_readDigits_70 : decode cX8_readDigits 70 = .ok (.getfield 28, 3) := by decide +kernel
theorem dX8_readDigits_73 : decode cX8_readDigits 73 = .ok (.iconst 1, 1) := by decide +kernel
theorem dX8_readDigits_74 : decode cX8_readDigits 74 = .ok (.iadd, 1) := by decide +kernel
theorem dX8_readDigits_75 : decode cX8_readDigits 75 = .ok (.putfield 28, 3) := by decide +kernel
theorem dX8_readDigits_78 : decode cX8_readDigits 78 = .ok (.goto (-73), 3) := by decide +kernel
theorem dX8_readDigits_81 : decode cX8_readDigits 81 = .ok (.return_, 1) := by decide +kernel
set_option maxHeartbeats 4000000 in
set_option maxRecDepth 100000 in
theorem lp_rl {γ : kΓ} {l : Launch} {p9 : Program} {e : Env} {s : State} {m : MethodId} {below : List Frame} {meth : Method} {c : Code} {A : Nat → Prop} (h : Nat) (hg : Nat) (t2 : Int32) (t4 : Int32) (t5 : Int32) (t7 : Nat) (n : Nat) (p : Nat) (f : Nat → Int32) (F : Nat) (G : Int64) (hn : n ≤ 1000) (hG : (vl 32 f p (F - p)) = G) (hC : kC γ p9 s m [.ref h].toArray c cX8_readLetters 1 RX8 A) (hr : meth.sig.returnType = none) (hlocks : meth.locks = false) : ∀ (k : Nat) (q : Nat), n - q < k → (p ≤ q ∧ q ≤ n) → (rn isL f n q = F) → ∀ (H : Heap) (locs : List Loc), kW γ A [(h, .inr (8, [.ref hg, .int (nI n), .int t2, .int (nI q), .int t4, .int t5, .long (vl 32 f p (q - p)), .ref t7])), (hg, .inl (γ.2.1 2, 1000, .inl f))] s H locs → ∀ ls : Array Slot, lv_has ls 1 [(0, .ref h)] → W p9 l e ({ frames := 0, cells := 0, slots := 0, locals := 0 } : Room) s m [.ref h].toArray below meth c H locs 0 0 (MQ below (kQ γ A (fun r w1 => r = none ∧ w1 = [(h, .inr (8, [.ref hg, .int (nI n), .int t2, .int (nI F), .int t4, .int t5, .long G, .ref t7])), (hg, .inl (γ.2.1 2, 1000, .inl f))])) [.ref h].toArray s 0 0 A) (F0 m 5 ls []) := by
  have hx := hC.1
  have hb := hC.2.1
  intro k
  induction k with
  | zero => intro q hk; exact absurd hk (Nat.not_lt_zero _)
  | succ k ih =>
    intro q hk hq hF H locs hw ls hl
    refine lv_aload_n hx hb dX8_readLetters_5 rfl (lv_at hl 0 rfl) ?_
    refine fg_RX8_28 hC hw 0 rfl rfl dX8_readLetters_6 ?_
    refine lv_aload_n hx hb dX8_readLetters_9 rfl (lv_at hl 0 rfl) ?_
    refine fg_RX8_24 hC hw 0 rfl rfl dX8_readLetters_10 ?_
    refine lv_icmp_ge (tgt := 83) hx hb dX8_readLetters_13 (by decide) (fun c13 => ?_) (fun c13 => ?_)
    · have h13 : ¬ q < n := fun h9 => absurd c13 (nI_ge h9 (by omega))
      have hF9 : q = F := by first | exact (rn_end h13).symm.trans hF | exact (rn_no (isL_lo c27)).symm.trans hF | exact (rn_no (isL_hi c41)).symm.trans hF
      have hG9 : (vl 32 f p (q - p)) = G := by rw [hF9]; exact hG
      have hw : kW γ A [(h, .inr (8, [.ref hg, .int (nI n), .int t2, .int (nI F), .int t4, .int t5, .long G, .ref t7])), (hg, .inl (γ.2.1 2, 1000, .inl f))] s H locs := by rw [← hF9, ← hG9]; exact hw
      exact k_vret hC hr hlocks hw [0, 1] rfl rfl ⟨rfl, rfl⟩ (by decide) (by decide) dX8_readLetters_83
    · have h13 : q < n := by rcases Nat.lt_or_ge q n with h9 | h9; exact h9; exact absurd (nI_le h9 (by omega)) c13
      refine lv_aload_n hx hb dX8_readLetters_16 rfl (lv_at hl 0 rfl) ?_
      refine fg_RX8_9 hC hw 0 rfl rfl dX8_readLetters_17 ?_
      refine lv_aload_n hx hb dX8_readLetters_20 rfl (lv_at hl 0 rfl) ?_
      refine fg_RX8_28 hC hw 0 rfl rfl dX8_readLetters_21 ?_
      refine k_bald hC hw 1 rfl (vp_in_nI (by omega) (by decide)) dX8_readLetters_24 ?_
      refine lv_topi (fun x_1 ex_1 => ?_)
      obtain rfl : x_1 = f q := (show x_1 = f (nI q : Int32).toNatClampNeg from ex_1).trans (by rw [nI_clamp (by omega)])
      refine lv_bipush (v := 97) hx hb dX8_readLetters_25 (by decide) ?_
      refine lv_icmp_lt (tgt := 83) hx hb dX8_readLetters_27 (by decide) (fun c27 => ?_) (fun c27 => ?_)
      · have hF9 : q = F := by first | exact (rn_end h13).symm.trans hF | exact (rn_no (isL_lo c27)).symm.trans hF | exact (rn_no (isL_hi c41)).symm.trans hF
        have hG9 : (vl 32 f p (q - p)) = G := by rw [hF9]; exact hG
        have hw : kW γ A [(h, .inr (8, [.ref hg, .int (nI n), .int t2, .int (nI F), .int t4, .int t5, .long G, .ref t7])), (hg, .inl (γ.2.1 2, 1000, .inl f))] s H locs := by rw [← hF9, ← hG9]; exact hw
        exact k_vret hC hr hlocks hw [0, 1] rfl rfl ⟨rfl, rfl⟩ (by decide) (by decide) dX8_readLetters_83
      · refine lv_aload_n hx hb dX8_readLetters_30 rfl (lv_at hl 0 rfl) ?_
        refine fg_RX8_9 hC hw 0 rfl rfl dX8_readLetters_31 ?_
        refine lv_aload_n hx hb dX8_readLetters_34 rfl (lv_at hl 0 rfl) ?_
        refine fg_RX8_28 hC hw 0 rfl rfl dX8_readLetters_35 ?_
        refine k_bald hC hw 1 rfl (vp_in_nI (by omega) (by decide)) dX8_readLetters_38 ?_
        refine lv_topi (fun x_2 ex_2 => ?_)
        obtain rfl : x_2 = f q := (show x_2 = f (nI q : Int32).toNatClampNeg from ex_2).trans (by rw [nI_clamp (by omega)])
        refine lv_bipush (v := 122) hx hb dX8_readLetters_39 (by decide) ?_
        refine lv_icmp_gt (tgt := 83) hx hb dX8_readLetters_41 (by decide) (fun c41 => ?_) (fun c41 => ?_)
        · have hF9 : q = F := by first | exact (rn_end h13).symm.trans hF | exact (rn_no (isL_lo c27)).symm.trans hF | exact (rn_no (isL_hi c41)).symm.trans hF
          have hG9 : (vl 32 f p (q - p)) = G := by rw [hF9]; exact hG
          have hw : kW γ A [(h, .inr (8, [.ref hg, .int (nI n), .int t2, .int (nI F), .int t4, .int t5, .long G, .ref t7])), (hg, .inl (γ.2.1 2, 1000, .inl f))] s H locs := by rw [← hF9, ← hG9]; exact hw
          exact k_vret hC hr hlocks hw [0, 1] rfl rfl ⟨rfl, rfl⟩ (by decide) (by decide) dX8_readLetters_83
        · refine lv_aload_n hx hb dX8_readLetters_44 rfl (lv_at hl 0 rfl) ?_
          refine lv_aload_n hx hb dX8_readLetters_45 rfl (lv_at hl 0 rfl) ?_
          refine fg_RX8_43 hC hw 0 rfl rfl dX8_readLetters_46 ?_
          refine k_ldc2 hC gw_468 dX8_readLetters_49 ?_
          refine lv_lmul hx hb dX8_readLetters_52 ?_
          refine lv_aload_n hx hb dX8_readLetters_53 rfl (lv_at hl 0 rfl) ?_
          refine fg_RX8_9 hC hw 0 rfl rfl dX8_readLetters_54 ?_
          refine lv_aload_n hx hb dX8_readLetters_57 rfl (lv_at hl 0 rfl) ?_
          refine fg_RX8_28 hC hw 0 rfl rfl dX8_readLetters_58 ?_
          refine k_bald hC hw 1 rfl (vp_in_nI (by omega) (by decide)) dX8_readLetters_61 ?_
          refine lv_topi (fun x_3 ex_3 => ?_)
          obtain rfl : x_3 = f q := (show x_3 = f (nI q : Int32).toNatClampNeg from ex_3).trans (by rw [nI_clamp (by omega)])
          refine lv_bipush (v := 96) hx hb dX8_readLetters_62 (by decide) ?_
          refine lv_isub hx hb dX8_readLetters_64 ?_
          refine lv_i2l hx hb dX8_readLetters_65 rfl ?_
          refine lv_ladd hx hb dX8_readLetters_66 ?_
          refine lv_topl (fun x_4 ex_4 => ?_)
          obtain rfl : x_4 = (vl 32 f p (q + 1 - p)) := ex_4.trans (vl_step hq.1)
          refine fs_RX8_43 hC hw 0 rfl rfl rfl (Nat.le_of_ble_eq_true rfl) dX8_readLetters_67 (fun H locs hw => ?_)
          have hw : kW γ A [(h, .inr (8, [.ref hg, .int (nI n), .int t2, .int (nI q), .int t4, .int t5, .long (vl 32 f p (q + 1 - p)), .ref t7])), (hg, .inl (γ.2.1 2, 1000, .inl f))] s H locs := hw
          refine lv_aload_n hx hb dX8_readLetters_70 rfl (lv_at hl 0 rfl) ?_
          refine lv_dup hx hb dX8_readLetters_71 rfl ?_
          refine fg_RX8_28 hC hw 0 rfl rfl dX8_readLetters_72 ?_
          refine lv_iconst (v := 1) hx hb dX8_readLetters_75 (by decide) ?_
          refine lv_iadd hx hb dX8_readLetters_76 ?_
          refine lv_topi (fun x_5 ex_5 => ?_)
          obtain rfl : x_5 = (nI (q + 1)) := ex_5.trans (nI_1 q)
          refine fs_RX8_28 hC hw 0 rfl rfl rfl (Nat.le_of_ble_eq_true rfl) dX8_readLetters_77 (fun H locs hw => ?_)
          have hw : kW γ A [(h, .inr (8, [.ref hg, .int (nI n), .int t2, .int (nI (q + 1)), .int t4, .int t5, .long (vl 32 f p (q + 1 - p)), .ref t7])), (hg, .inl (γ.2.1 2, 1000, .inl f))] s H locs := hw
          refine lv_goto (tgt := 5) hx hb dX8_readLetters_80 (by decide) ?_
          exact ih (q + 1) (by omega) ⟨by omega, by omega⟩ ((rn_go h13 (isL_ok c27 c41)).symm.trans hF) _ _ (kW.sub hw [0, 1] rfl rfl) _ (lv_sub hl [0] rfl)

set_option maxHeartbeats 4000000 in
set_option maxRecDepth 100000 in
theorem c_X8_readLetters (γ : kΓ) (l : Launch) (h : Nat) (hg : Nat) (t2 : Int32) (t4 : Int32) (t5 : Int32) (t6 : Int64) (t7 : Nat) (n : Nat) (p : Nat) (f : Nat → Int32) (hn : n ≤ 1000) (hp : p ≤ n) : kM γ l yX8_readLetters cX8_readLetters 1 none ({ frames := 0, cells := 0, slots := 0, locals := 0 } : Room) [.ref h] [(h, .inr (8, [.ref hg, .int (nI n), .int t2, .int (nI p), .int t4, .int t5, .long t6, .ref t7])), (hg, .inl (γ.2.1 2, 1000, .inl f))] (fun r w1 => r = none ∧ w1 = [(h, .inr (8, [.ref hg, .int (nI n), .int t2, .int (nI (rn isL f n p)), .int t4, .int t5, .long (vl 32 f p (rn isL f n p - p)), .ref t7])), (hg, .inl (γ.2.1 2, 1000, .inl f))]) := by
  refine k_ofW (by decide) (Nat.le_of_ble_eq_true rfl) ?_
  intro p9 e s m below meth c A ls hC hr hlocks hname hw hl
  have hx := hC.1
  have hb := hC.2.1
  have hl : lv_has ls 1 [(0, .ref h)] := hl
  refine lv_aload_n hx hb dX8_readLetters_0 rfl (lv_at hl 0 rfl) ?_
  refine lv_lconst (v := 0) hx hb dX8_readLetters_1 (by decide) ?_
  refine fs_RX8_43 hC hw 0 rfl rfl rfl (Nat.le_of_ble_eq_true rfl) dX8_readLetters_2 (fun H locs hw => ?_)
  have hw : kW γ A [(h, .inr (8, [.ref hg, .int (nI n), .int t2, .int (nI p), .int t4, .int t5, .long 0, .ref t7])), (hg, .inl (γ.2.1 2, 1000, .inl f))] s H locs := hw
  have hw : kW γ A [(h, .inr (8, [.ref hg, .int (nI n), .int t2, .int (nI p), .int t4, .int t5, .long (vl 32 f p (p - p)), .ref t7])), (hg, .inl (γ.2.1 2, 1000, .inl f))] s H locs := by rw [Nat.sub_self]; exact hw
  exact lp_rl h hg t2 t4 t5 t7 n p f _ _ hn rfl hC hr hlocks (n + 1) p (by omega) ⟨Nat.le_refl _, hp⟩ rfl _ _ hw _ (lv_sub hl [0] rfl)

set_option maxHeartbeats 4000000 in
set_option maxRecDepth 100000 in
theorem lp_rd {γ : kΓ} {l : Launch} {p9 : Program} {e : Env} {s : State} {m : MethodId} {below : List Frame} {meth : Method} {c : Code} {A : Nat → Prop} (h : Nat) (hg : Nat) (t2 : Int32) (t4 : Int32) (t6 : Int64) (t7 : Nat) (n : Nat) (p : Nat) (f : Nat → Int32) (F : Nat) (G : Int32) (hn : n ≤ 1000) (hG : (vd f p (F - p)) = G) (hC : kC γ p9 s m [.ref h].toArray c cX8_readDigits 1 RX8 A) (hr : meth.sig.returnType = none) (hlocks : meth.locks = false) : ∀ (k : Nat) (q : Nat), n - q < k → (p ≤ q ∧ q ≤ n) → (rn isD f n q = F) → ∀ (H : Heap) (locs : List Loc), kW γ A [(h, .inr (8, [.ref hg, .int (nI n), .int t2, .int (nI q), .int t4, .int (vd f p (q - p)), .long t6, .ref t7])), (hg, .inl (γ.2.1 2, 1000, .inl f))] s H locs → ∀ ls : Array Slot, lv_has ls 1 [(0, .ref h)] → W p9 l e ({ frames := 0, cells := 0, slots := 0, locals := 0 } : Room) s m [.ref h].toArray below meth c H locs 0 0 (MQ below (kQ γ A (fun r w1 => r = none ∧ w1 = [(h, .inr (8, [.ref hg, .int (nI n), .int t2, .int (nI F), .int t4, .int G, .long t6, .ref t7])), (hg, .inl (γ.2.1 2, 1000, .inl f))])) [.ref h].toArray s 0 0 A) (F0 m 5 ls []) := by
  have hx := hC.1
  have hb := hC.2.1
  intro k
  induction k with
  | zero => intro q hk; exact absurd hk (Nat.not_lt_zero _)
  | succ k ih =>
    intro q hk hq hF H locs hw ls hl
    refine lv_aload_n hx hb dX8_readDigits_5 rfl (lv_at hl 0 rfl) ?_
    refine fg_RX8_28 hC hw 0 rfl rfl dX8_readDigits_6 ?_
    refine lv_aload_n hx hb dX8_readDigits_9 rfl (lv_at hl 0 rfl) ?_
    refine fg_RX8_24 hC hw 0 rfl rfl dX8_readDigits_10 ?_
    refine lv_icmp_ge (tgt := 81) hx hb dX8_readDigits_13 (by decide) (fun c13 => ?_) (fun c13 => ?_)
    · have h13 : ¬ q < n := fun h9 => absurd c13 (nI_ge h9 (by omega))
      have hF9 : q = F := by first | exact (rn_end h13).symm.trans hF | exact (rn_no (isD_lo c27)).symm.trans hF | exact (rn_no (isD_hi c41)).symm.trans hF
      have hG9 : (vd f p (q - p)) = G := by rw [hF9]; exact hG
      have hw : kW γ A [(h, .inr (8, [.ref hg, .int (nI n), .int t2, .int (nI F), .int t4, .int G, .long t6, .ref t7])), (hg, .inl (γ.2.1 2, 1000, .inl f))] s H locs := by rw [← hF9, ← hG9]; exact hw
      exact k_vret hC hr hlocks hw [0, 1] rfl rfl ⟨rfl, rfl⟩ (by decide) (by decide) dX8_readDigits_81
    · have h13 : q < n := by rcases Nat.lt_or_ge q n with h9 | h9; exact h9; exact absurd (nI_le h9 (by omega)) c13
      refine lv_aload_n hx hb dX8_readDigits_16 rfl (lv_at hl 0 rfl) ?_
      refine fg_RX8_9 hC hw 0 rfl rfl dX8_readDigits_17 ?_
      refine lv_aload_n hx hb dX8_readDigits_20 rfl (lv_at hl 0 rfl) ?_
      refine fg_RX8_28 hC hw 0 rfl rfl dX8_readDigits_21 ?_
      refine k_bald hC hw 1 rfl (vp_in_nI (by omega) (by decide)) dX8_readDigits_24 ?_
      refine lv_topi (fun x_6 ex_6 => ?_)
      obtain rfl : x_6 = f q := (show x_6 = f (nI q : Int32).toNatClampNeg from ex_6).trans (by rw [nI_clamp (by omega)])
      refine lv_bipush (v := 48) hx hb dX8_readDigits_25 (by decide) ?_
      refine lv_icmp_lt (tgt := 81) hx hb dX8_readDigits_27 (by decide) (fun c27 => ?_) (fun c27 => ?_)
      · have hF9 : q = F := by first | exact (rn_end h13).symm.trans hF | exact (rn_no (isD_lo c27)).symm.trans hF | exact (rn_no (isD_hi c41)).symm.trans hF
        have hG9 : (vd f p (q - p)) = G := by rw [hF9]; exact hG
        have hw : kW γ A [(h, .inr (8, [.ref hg, .int (nI n), .int t2, .int (nI F), .int t4, .int G, .long t6, .ref t7])), (hg, .inl (γ.2.1 2, 1000, .inl f))] s H locs := by rw [← hF9, ← hG9]; exact hw
        exact k_vret hC hr hlocks hw [0, 1] rfl rfl ⟨rfl, rfl⟩ (by decide) (by decide) dX8_readDigits_81
      · refine lv_aload_n hx hb dX8_readDigits_30 rfl (lv_at hl 0 rfl) ?_
        refine fg_RX8_9 hC hw 0 rfl rfl dX8_readDigits_31 ?_
        refine lv_aload_n hx hb dX8_readDigits_34 rfl (lv_at hl 0 rfl) ?_
        refine fg_RX8_28 hC hw 0 rfl rfl dX8_readDigits_35 ?_
        refine k_bald hC hw 1 rfl (vp_in_nI (by omega) (by decide)) dX8_readDigits_38 ?_
        refine lv_topi (fun x_7 ex_7 => ?_)
        obtain rfl : x_7 = f q := (show x_7 = f (nI q : Int32).toNatClampNeg from ex_7).trans (by rw [nI_clamp (by omega)])
        refine lv_bipush (v := 57) hx hb dX8_readDigits_39 (by decide) ?_
        refine lv_icmp_gt (tgt := 81) hx hb dX8_readDigits_41 (by decide) (fun c41 => ?_) (fun c41 => ?_)
        · have hF9 : q = F := by first | exact (rn_end h13).symm.trans hF | exact (rn_no (isD_lo c27)).symm.trans hF | exact (rn_no (isD_hi c41)).symm.trans hF
          have hG9 : (vd f p (q - p)) = G := by rw [hF9]; exact hG
          have hw : kW γ A [(h, .inr (8, [.ref hg, .int (nI n), .int t2, .int (nI F), .int t4, .int G, .long t6, .ref t7])), (hg, .inl (γ.2.1 2, 1000, .inl f))] s H locs := by rw [← hF9, ← hG9]; exact hw
          exact k_vret hC hr hlocks hw [0, 1] rfl rfl ⟨rfl, rfl⟩ (by decide) (by decide) dX8_readDigits_81
        · refine lv_aload_n hx hb dX8_readDigits_44 rfl (lv_at hl 0 rfl) ?_
          refine lv_aload_n hx hb dX8_readDigits_45 rfl (lv_at hl 0 rfl) ?_
          refine fg_RX8_60 hC hw 0 rfl rfl dX8_readDigits_46 ?_
          refine lv_bipush (v := 10) hx hb dX8_readDigits_49 (by decide) ?_
          refine lv_imul hx hb dX8_readDigits_51 ?_
          refine lv_aload_n hx hb dX8_readDigits_52 rfl (lv_at hl 0 rfl) ?_
          refine fg_RX8_9 hC hw 0 rfl rfl dX8_readDigits_53 ?_
          refine lv_aload_n hx hb dX8_readDigits_56 rfl (lv_at hl 0 rfl) ?_
          refine fg_RX8_28 hC hw 0 rfl rfl dX8_readDigits_57 ?_
          refine k_bald hC hw 1 rfl (vp_in_nI (by omega) (by decide)) dX8_readDigits_60 ?_
          refine lv_topi (fun x_8 ex_8 => ?_)
          obtain rfl : x_8 = f q := (show x_8 = f (nI q : Int32).toNatClampNeg from ex_8).trans (by rw [nI_clamp (by omega)])
          refine lv_bipush (v := 48) hx hb dX8_readDigits_61 (by decide) ?_
          refine lv_isub hx hb dX8_readDigits_63 ?_
          refine lv_iadd hx hb dX8_readDigits_64 ?_
          refine lv_topi (fun x_9 ex_9 => ?_)
          obtain rfl : x_9 = (vd f p (q + 1 - p)) := ex_9.trans (vd_step hq.1)
          refine fs_RX8_60 hC hw 0 rfl rfl rfl (Nat.le_of_ble_eq_true rfl) dX8_readDigits_65 (fun H locs hw => ?_)
          have hw : kW γ A [(h, .inr (8, [.ref hg, .int (nI n), .int t2, .int (nI q), .int t4, .int (vd f p (q + 1 - p)), .long t6, .ref t7])), (hg, .inl (γ.2.1 2, 1000, .inl f))] s H locs := hw
          refine lv_aload_n hx hb dX8_readDigits_68 rfl (lv_at hl 0 rfl) ?_
          refine lv_dup hx hb dX8_readDigits_69 rfl ?_
          refine fg_RX8_28 hC hw 0 rfl rfl dX8_readDigits_70 ?_
          refine lv_iconst (v := 1) hx hb dX8_readDigits_73 (by decide) ?_
          refine lv_iadd hx hb dX8_readDigits_74 ?_
          refine lv_topi (fun x_10 ex_10 => ?_)
          obtain rfl : x_10 = (nI (q + 1)) := ex_10.trans (nI_1 q)
          refine fs_RX8_28 hC hw 0 rfl rfl rfl (Nat.le_of_ble_eq_true rfl) dX8_readDigits_75 (fun H locs hw => ?_)
          have hw : kW γ A [(h, .inr (8, [.ref hg, .int (nI n), .int t2, .int (nI (q + 1)), .int t4, .int (vd f p (q + 1 - p)), .long t6, .ref t7])), (hg, .inl (γ.2.1 2, 1000, .inl f))] s H locs := hw
          refine lv_goto (tgt := 5) hx hb dX8_readDigits_78 (by decide) ?_
          exact ih (q + 1) (by omega) ⟨by omega, by omega⟩ ((rn_go h13 (isD_ok c27 c41)).symm.trans hF) _ _ (kW.sub hw [0, 1] rfl rfl) _ (lv_sub hl [0] rfl)

set_option maxHeartbeats 4000000 in
set_option maxRecDepth 100000 in
theorem c_X8_readDigits (γ : kΓ) (l : Launch) (h : Nat) (hg : Nat) (t2 : Int32) (t4 : Int32) (t5 : Int32) (t6 : Int64) (t7 : Nat) (n : Nat) (p : Nat) (f : Nat → Int32) (hn : n ≤ 1000) (hp : p ≤ n) : kM γ l yX8_readDigits cX8_readDigits 1 none ({ frames := 0, cells := 0, slots := 0, locals := 0 } : Room) [.ref h] [(h, .inr (8, [.ref hg, .int (nI n), .int t2, .int (nI p), .int t4, .int t5, .long t6, .ref t7])), (hg, .inl (γ.2.1 2, 1000, .inl f))] (fun r w1 => r = none ∧ w1 = [(h, .inr (8, [.ref hg, .int (nI n), .int t2, .int (nI (rn isD f n p)), .int t4, .int (vd f p (rn isD f n p - p)), .long t6, .ref t7])), (hg, .inl (γ.2.1 2, 1000, .inl f))]) := by
  refine k_ofW (by decide) (Nat.le_of_ble_eq_true rfl) ?_
  intro p9 e s m below meth c A ls hC hr hlocks hname hw hl
  have hx := hC.1
  have hb := hC.2.1
  have hl : lv_has ls 1 [(0, .ref h)] := hl
  refine lv_aload_n hx hb dX8_readDigits_0 rfl (lv_at hl 0 rfl) ?_
  refine lv_iconst (v := 0) hx hb dX8_readDigits_1 (by decide) ?_
  refine fs_RX8_60 hC hw 0 rfl rfl rfl (Nat.le_of_ble_eq_true rfl) dX8_readDigits_2 (fun H locs hw => ?_)
  have hw : kW γ A [(h, .inr (8, [.ref hg, .int (nI n), .int t2, .int (nI p), .int t4, .int 0, .long t6, .ref t7])), (hg, .inl (γ.2.1 2, 1000, .inl f))] s H locs := hw
  have hw : kW γ A [(h, .inr (8, [.ref hg, .int (nI n), .int t2, .int (nI p), .int t4, .int (vd f p (p - p)), .long t6, .ref t7])), (hg, .inl (γ.2.1 2, 1000, .inl f))] s H locs := by rw [Nat.sub_self]; exact hw
  exact lp_rd h hg t2 t4 t6 t7 n p f _ _ hn rfl hC hr hlocks (n + 1) p (by omega) ⟨Nat.le_refl _, hp⟩ rfl _ _ hw _ (lv_sub hl [0] rfl)


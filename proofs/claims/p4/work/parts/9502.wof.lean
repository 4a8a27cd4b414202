theorem k_cmp_self9 (x : Int64) : lg_cmp x x = 0 := by
  unfold lg_cmp; simp
theorem k_cmp0 {x y : Int64} (h : lg_cmp x y = 0) : x = y := by
  unfold lg_cmp at h
  split at h
  · exact absurd h (by decide)
  · split at h
    · assumption
    · exact absurd h (by decide)
theorem wofk_lt (x : Int64) : ∀ d k : Nat, d + k ≤ 26 → 1 ≤ k + d → wofk x d k < 26
  | 0, k, h, h1 => by show 1 < 26; decide
  | d + 1, k, h, h1 => by
    show (if kWl.getD k 0 = x then k else wofk x d (k + 1)) < 26
    split
    · omega
    · exact wofk_lt x d (k + 1) (by omega) (by omega)
theorem wof_lt (x : Int64) : wof x < 26 := wofk_lt x 26 0 (by decide) (by decide)
theorem c_wof (γ : kΓ) (l : Launch) (x : Int64) : kM γ l yX10_of cX10_of 3 ((some (.object "TithedThoughts$Word"))) ({ frames := 0, cells := 0, slots := 0, locals := 0 } : Room) [.long x] [] (fun r w1 => r = some (.ref (γ.2.2.2.2 (wof x))) ∧ w1 = []) := by
  refine k_ofW (by decide) (Nat.le_of_ble_eq_true rfl) ?_
  intro p e s m below meth c A ls hC hr hlocks hname hw hl
  have hz := k_zw hC
  obtain ⟨t, ht1, ht2⟩ := hz.2.2.2.2
  have loop : ∀ (d k : Nat) (ls : Array Slot), d + k = 26 → wofk x d k = wof x → lv_has ls 3 [(2, .int (nI k)), (0, .long x)] → W p l e { frames := 0, cells := 0, slots := 0, locals := 0 } s m [.long x].toArray below meth c s.heap [] 0 0 (MQ below (kQ γ A (fun r w1 => r = some (.ref (γ.2.2.2.2 (wof x))) ∧ w1 = [])) [.long x].toArray s 0 0 A) (F0 m 2 ls []) := by
    intro d
    induction d with
    | zero =>
      intro k ls hk hwf hl
      have e0 : k = 26 := by omega
      subst e0
      refine lv_iload_n hC.1 hC.2.1 dwo_2 rfl (lv_at hl 0 rfl) ?_
      refine va_gets hC.1 hC.2.1 ht1 hw.2.2 hC.2.2.2.1 (hC.2.2.2.2.1 _ gw_472) (fun _ h => h) dwo_3 ?_
      refine va_tlen hC.1 hC.2.1 ht2 hw.2.2 rfl dwo_6 ?_
      refine lv_icmp_ge hC.1 hC.2.1 dwo_7 (tgt := 35) rfl (fun _ => ?_) (fun h => absurd h (by decide))
      refine k_word hC hw (n := 1) (by decide) gw_474 dwo_35 ?_
      have hwf : 1 = wof x := hwf
      exact k_aret hC hr hlocks hw [] rfl rfl ⟨by rw [← hwf], rfl⟩ (Nat.le_refl _) (Nat.le_refl _) dwo_38
    | succ d ih =>
      intro k ls hk hwf hl
      have hk26 : k < 26 := by omega
      have hki : (nI k).toInt = (k : Int) := nI_toInt (by omega)
      have hkc : (nI k).toNatClampNeg = k := nI_clamp (by omega)
      have hin : vp_in (nI k) 26 := k_in0 ⟨by omega, by omega⟩
      have hwf : (if kWl.getD k 0 = x then k else wofk x d (k + 1)) = wof x := hwf
      refine lv_iload_n hC.1 hC.2.1 dwo_2 rfl (lv_at hl 0 rfl) ?_
      refine va_gets hC.1 hC.2.1 ht1 hw.2.2 hC.2.2.2.1 (hC.2.2.2.2.1 _ gw_472) (fun _ h => h) dwo_3 ?_
      refine va_tlen hC.1 hC.2.1 ht2 hw.2.2 rfl dwo_6 ?_
      refine lv_icmp_ge hC.1 hC.2.1 dwo_7 (tgt := 35) rfl (fun h => absurd (Int32.le_iff_toInt_le.mp h) (by
        have e26 : (Int32.ofNat 26).toInt = 26 := by decide
        rw [e26, hki]; omega)) (fun _ => ?_)
      refine va_gets hC.1 hC.2.1 ht1 hw.2.2 hC.2.2.2.1 (hC.2.2.2.2.1 _ gw_472) (fun _ h => h) dwo_10 ?_
      refine lv_iload_n hC.1 hC.2.1 dwo_13 rfl (lv_at hl 0 rfl) ?_
      refine vb_tq hC.1 hC.2.1 ht2 hw.2.2 hin (v := .ref (γ.2.2.2.2 k)) (by rw [hkc]) dwo_14 ?_
      refine va_getX hC.1 hC.2.1 hz.2.1 hk26 hw.2.2 hC.2.2.2.1 (hC.2.2.2.2.1 _ gw_1832) (fun _ h => h) dwo_15 ?_
      refine lv_lload_n hC.1 hC.2.1 dwo_18 rfl (lv_at hl 1 rfl) ?_
      refine W.lcmp hC.1 hC.2.1 dwo_19 ?_
      refine lv_if_ne hC.1 hC.2.1 dwo_20 (tgt := 29) rfl (fun hne => ?_) (fun heq => ?_)
      · have hx9 : ¬ kWl.getD k 0 = x := fun e => hne (by rw [e]; exact k_cmp_self9 x)
        rw [if_neg hx9] at hwf
        refine lv_iinc hC.1 hC.2.1 dwo_29 hl (k := 0) rfl rfl (by decide) rfl (fun ls1 hl1 => ?_)
        refine lv_goto hC.1 hC.2.1 dwo_32 (tgt := 2) rfl ?_
        refine ih (k + 1) ls1 (by omega) hwf ?_
        have e1 : nI k + Int32.ofInt 1 = nI (k + 1) := by
          apply Int32.toInt_inj.mp
          rw [q_addT, hki, nI_toInt (by omega), show (Int32.ofInt 1).toInt = 1 by decide, q_bmod (by unfold i32lo; omega) (by unfold i32hi; omega)]
          omega
        rw [e1] at hl1
        exact hl1
      · have hx9 : kWl.getD k 0 = x := k_cmp0 heq
        rw [if_pos hx9] at hwf
        refine va_gets hC.1 hC.2.1 ht1 hw.2.2 hC.2.2.2.1 (hC.2.2.2.2.1 _ gw_472) (fun _ h => h) dwo_23 ?_
        refine lv_iload_n hC.1 hC.2.1 dwo_26 rfl (lv_at hl 0 rfl) ?_
        refine vb_tq hC.1 hC.2.1 ht2 hw.2.2 hin (v := .ref (γ.2.2.2.2 k)) (by rw [hkc]) dwo_27 ?_
        exact k_aret hC hr hlocks hw [] rfl rfl ⟨by rw [← hwf], rfl⟩ (Nat.le_refl _) (Nat.le_refl _) dwo_28
  refine lv_iconst hC.1 hC.2.1 dwo_0 (v := 0) rfl ?_
  refine lv_istore_n hC.1 hC.2.1 dwo_1 rfl hl (by decide) rfl (fun ls1 hl1 => ?_)
  exact loop 26 0 ls1 rfl rfl hl1

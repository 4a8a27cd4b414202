theorem l_and (v : Int32) : ∃ n : Nat, n < 32 ∧ v &&& 31 = Int32.ofNat n := by
  have h : (v &&& 31).toBitVec = v.toBitVec &&& 31#32 := rfl
  have h2 : (v.toBitVec &&& 31#32).toNat = v.toBitVec.toNat % 32 := by
    rw [BitVec.toNat_and]
    exact Nat.and_two_pow_sub_one_eq_mod _ 5
  refine ⟨v.toBitVec.toNat % 32, Nat.mod_lt _ (by decide), ?_⟩
  apply Int32.toBitVec_inj.mp
  apply BitVec.eq_of_toNat_eq
  rw [h, h2]
  show _ = (BitVec.ofNat 32 (v.toBitVec.toNat % 32)).toNat
  rw [BitVec.toNat_ofNat]
  have := Nat.mod_lt v.toBitVec.toNat (show 0 < 32 by decide)
  omega
theorem l_idx {L n : Nat} (hL : L ≤ 3584) (h : 7 * n + 7 ≤ L) (j : Int32) (h0 : 0 ≤ j) (h6 : j ≤ 6) : vp_in (nI (7 * n) + j) L := by
  have a0 := Int32.le_iff_toInt_le.mp h0
  have a6 := Int32.le_iff_toInt_le.mp h6
  have b0 : (0 : Int32).toInt = 0 := by decide
  have b6 : (6 : Int32).toInt = 6 := by decide
  rw [b0] at a0
  rw [b6] at a6
  have e : (nI (7 * n) + j).toInt = (7 * n : Nat) + j.toInt := by
    rw [q_addT, nI_toInt (by omega), q_bmod (by unfold i32lo; omega) (by unfold i32hi; omega)]
  have h1 : 0 ≤ (nI (7 * n) + j).toInt := by rw [e]; omega
  have h2 := q_clamp h1
  intro hq
  rcases hq with hq | hq
  · have := Int32.lt_iff_toInt_lt.mp hq
    rw [b0] at this
    omega
  · omega
theorem l_cmp {L n : Nat} (hL : L ≤ 3584) (hn : 7 * n ≤ L) : (Int32.ofNat L - 7 < nI (7 * n)) ↔ L < 7 * n + 7 := by
  have e : (Int32.ofNat L - 7).toInt = (L : Int) - 7 := by
    show (nI L - 7).toInt = _
    have b7 : (7 : Int32).toInt = 7 := by decide
    rw [Int32.toInt_sub, nI_toInt (by omega), b7, q_bmod (by unfold i32lo; omega) (by unfold i32hi; omega)]
  rw [Int32.lt_iff_toInt_lt, e, nI_toInt (by omega)]
  omega
set_option maxHeartbeats 4000000 in
set_option maxRecDepth 100000 in
theorem law_ret {l : Launch} {p : Program} {e : Env} {s : State} {m : MethodId} {below : List Frame} {meth : Method} {c : Code} {b : Nat} (hx : p.tables.exec = Jvm.exec) (hb : c.code = code) (hr : meth.sig.returnType = ret) (hlocks : meth.locks = false) {cells slots : Nat} {H : Heap} {locs : List Loc} (hlo : ∀ q ∈ locs, s.heap.size ≤ q.base) (hc9 : cells ≤ 601024) (hs9 : slots ≤ 7293034) (ls : Array Slot) : W p l e room_1 s m [Value.ref b].toArray below meth c H locs cells slots (lw_Z below #[Value.ref b] s) (F0 m 1264 ls []) := by
  refine lv_iconst (v := 1) hx hb dL_law_1264 (by decide) ?_
  refine va_forget hlo ?_
  refine W.widen (k := 601024) (n := 7293034) hc9 hs9 ?_
  exact lw_ret hx hb hr hlocks dL_law_1265
set_option maxHeartbeats 4000000 in
set_option maxRecDepth 100000 in
theorem l_loop {γ : kΓ} {l : Launch} {p : Program} {e : Env} {s : State} {m : MethodId} {below : List Frame} {meth : Method} {c : Code} {A : Nat → Prop} {b L : Nat} {xs : Nat → Int32} {x z ou : Nat} {ax am : List Nat} (hC : kC γ p s m [Value.ref b].toArray c code 7 RL A) (hr : meth.sig.returnType = ret) (hlocks : meth.locks = false) (hX : va_X b L xs s s.heap) (hbl : b < s.heap.size) (hbA : ¬ A b) (hAs : ∀ q, A q → s.heap.size ≤ q) (hl9 : l.stackTraces = false) (hax : ax[0]? = some x) (ham : am[0]? = some z) (hL : L ≤ 3584) :
    ∀ (d n : Nat) (H : Heap) (locs : List Loc) (ls : Array Slot), L < d + 7 * n + 7 → 7 * n ≤ L → lIv γ A ax am ou s H locs → lv_has ls 7 [(4, .int (nI (7 * n))), (0, .ref b), (1, .ref x), (2, .ref z), (3, .ref ou)] → W p l e room_1 s m [Value.ref b].toArray below meth c H locs (251 + n) (13922 + 6 * n) (lw_Z below #[Value.ref b] s) (F0 m 23 ls []) := by
  have hx := hC.1
  have hb := hC.2.1
  intro d
  induction d with
  | zero =>
    intro n H locs ls hd hn hI hl
    have hw := hI.elim (fun wx h => h.elim (fun wm h => h.elim (fun fo h => h.1.2.2)))
    refine lv_iload hx hb dL_law_23 (lv_at hl 0 rfl) ?_
    refine lv_aload_n hx hb dL_law_25 rfl (lv_at hl 1 rfl) ?_
    refine va_slen hx hb hX hbl hbA hw dL_law_26 ?_
    refine lv_bipush (v := 7) hx hb dL_law_27 (by decide) ?_
    refine lv_isub hx hb dL_law_29 ?_
    refine lv_icmp_gt (tgt := 1264) hx hb dL_law_30 (by decide) (fun _ => ?_) (fun h => absurd ((l_cmp hL hn).mpr (by omega)) h)
    exact law_ret hx hb hr hlocks (fun q hq => hAs _ (hw.2.2 q hq)) (by omega) (by omega) _
  | succ d ih =>
    intro n H locs ls hd hn hI hl
    have hw := hI.elim (fun wx h => h.elim (fun wm h => h.elim (fun fo h => h.1.2.2)))
    refine lv_iload hx hb dL_law_23 (lv_at hl 0 rfl) ?_
    refine lv_aload_n hx hb dL_law_25 rfl (lv_at hl 1 rfl) ?_
    refine va_slen hx hb hX hbl hbA hw dL_law_26 ?_
    refine lv_bipush (v := 7) hx hb dL_law_27 (by decide) ?_
    refine lv_isub hx hb dL_law_29 ?_
    refine lv_icmp_gt (tgt := 1264) hx hb dL_law_30 (by decide) (fun _ => ?_) (fun h => ?_)
    · exact law_ret hx hb hr hlocks (fun q hq => hAs _ (hw.2.2 q hq)) (by omega) (by omega) _
    have hn7 : 7 * n + 7 ≤ L := by
      rcases Nat.lt_or_ge L (7 * n + 7) with h1 | h1
      · exact absurd ((l_cmp hL hn).mpr h1) h
      · exact h1
    have hi := l_idx hL hn7
    have hcs : 251 + n + 1 ≤ 601024 := by omega
    have hss : 13922 + 6 * n + 6 ≤ 7293034 := by omega
    have hk : ∀ (H : Heap) (locs : List Loc) (ls : Array Slot), lIv γ A ax am ou s H locs → lv_has ls 7 [(4, .int (nI (7 * n))), (0, .ref b), (1, .ref x), (2, .ref z), (3, .ref ou)] → W p l e room_1 s m [Value.ref b].toArray below meth c H locs (251 + n + 1) (13922 + 6 * n + 6) (lw_Z below #[Value.ref b] s) (F0 m 1258 ls []) := by
      intro H locs ls hI hl
      refine lv_iinc (v := nI (7 * (n + 1))) (lv' := [(4, .int (nI (7 * (n + 1)))), (0, .ref b), (1, .ref x), (2, .ref z), (3, .ref ou)]) hx hb dL_law_1258 hl (k := 0) rfl (by
        apply Int32.toInt_inj.mp
        rw [q_addT, nI_toInt (by omega), nI_toInt (by omega), show (Int32.ofInt 7).toInt = 7 by decide, q_bmod (by unfold i32lo; omega) (by unfold i32hi; omega)]
        omega) (by decide) rfl (fun ls hl => ?_)
      refine lv_goto (tgt := 23) hx hb dL_law_1261 (by decide) ?_
      have h9 := ih (n + 1) H locs ls (by omega) (by omega) hI hl
      rw [show 251 + (n + 1) = 251 + n + 1 by omega, show 13922 + 6 * (n + 1) = 13922 + 6 * n + 6 by omega] at h9
      exact h9
    refine lv_aload_n hx hb dL_law_33 rfl (lv_at hl 1 rfl) ?_
    refine lv_iload hx hb dL_law_34 (lv_at hl 0 rfl) ?_
    refine va_sld hx hb hX hbl hbA hw (by have := hi 0 (by decide) (by decide); rw [Int32.add_zero] at this; exact this) dL_law_36 ?_
    refine lv_bipush (v := 31) hx hb dL_law_37 (by decide) ?_
    refine lv_iand hx hb dL_law_39 ?_
    refine lv_topi (fun q eq => ?_)
    obtain ⟨k, hk32, ek⟩ := l_and (xs (nI (7 * n)).toNatClampNeg)
    rw [ek] at eq
    have hk32 : k = 0 ∨ k = 1 ∨ k = 2 ∨ k = 3 ∨ k = 4 ∨ k = 5 ∨ k = 6 ∨ k = 7 ∨ k = 8 ∨ k = 9 ∨ k = 10 ∨ k = 11 ∨ k = 12 ∨ k = 13 ∨ k = 14 ∨ k = 15 ∨ k = 16 ∨ k = 17 ∨ k = 18 ∨ k = 19 ∨ k = 20 ∨ k = 21 ∨ k = 22 ∨ k = 23 ∨ k = 24 ∨ k = 25 ∨ k = 26 ∨ k = 27 ∨ k = 28 ∨ k = 29 ∨ k = 30 ∨ k = 31 := by omega
    rcases hk32 with rfl | rfl | rfl | rfl | rfl | rfl | rfl | rfl | rfl | rfl | rfl | rfl | rfl | rfl | rfl | rfl | rfl | rfl | rfl | rfl | rfl | rfl | rfl | rfl | rfl | rfl | rfl | rfl | rfl | rfl | rfl | rfl
    · obtain rfl : q = 0 := eq.trans (by decide)
      refine lv_tableIn (tgt := 184) hx hb dL_law_40 (by decide) (by decide) rfl (by decide) ?_
      exact lc_0 hC hX hbl hbA hl9 hax ham hi hcs hss hk hI hl
    · obtain rfl : q = 1 := eq.trans (by decide)
      refine lv_tableIn (tgt := 331) hx hb dL_law_40 (by decide) (by decide) rfl (by decide) ?_
      exact lc_1 hC hX hbl hbA hl9 hax ham hi hcs hss hk hI hl
    · obtain rfl : q = 2 := eq.trans (by decide)
      refine lv_tableIn (tgt := 344) hx hb dL_law_40 (by decide) (by decide) rfl (by decide) ?_
      exact lc_2 hC hX hbl hbA hl9 hax ham hi hcs hss hk hI hl
    · obtain rfl : q = 3 := eq.trans (by decide)
      refine lv_tableIn (tgt := 357) hx hb dL_law_40 (by decide) (by decide) rfl (by decide) ?_
      exact lc_3 hC hX hbl hbA hl9 hax ham hi hcs hss hk hI hl
    · obtain rfl : q = 4 := eq.trans (by decide)
      refine lv_tableIn (tgt := 394) hx hb dL_law_40 (by decide) (by decide) rfl (by decide) ?_
      exact lc_4 hC hX hbl hbA hl9 hax ham hi hcs hss hk hI hl
    · obtain rfl : q = 5 := eq.trans (by decide)
      refine lv_tableIn (tgt := 431) hx hb dL_law_40 (by decide) (by decide) rfl (by decide) ?_
      exact lc_5 hC hX hbl hbA hl9 hax ham hi hcs hss hk hI hl
    · obtain rfl : q = 6 := eq.trans (by decide)
      refine lv_tableIn (tgt := 468) hx hb dL_law_40 (by decide) (by decide) rfl (by decide) ?_
      exact lc_6 hC hX hbl hbA hl9 hax ham hi hcs hss hk hI hl
    · obtain rfl : q = 7 := eq.trans (by decide)
      refine lv_tableIn (tgt := 505) hx hb dL_law_40 (by decide) (by decide) rfl (by decide) ?_
      exact lc_7 hC hX hbl hbA hl9 hax ham hi hcs hss hk hI hl
    · obtain rfl : q = 8 := eq.trans (by decide)
      refine lv_tableIn (tgt := 530) hx hb dL_law_40 (by decide) (by decide) rfl (by decide) ?_
      exact lc_8 hC hX hbl hbA hl9 hax ham hi hcs hss hk hI hl
    · obtain rfl : q = 9 := eq.trans (by decide)
      refine lv_tableIn (tgt := 567) hx hb dL_law_40 (by decide) (by decide) rfl (by decide) ?_
      exact lc_9 hC hX hbl hbA hl9 hax ham hi hcs hss hk hI hl
    · obtain rfl : q = 10 := eq.trans (by decide)
      refine lv_tableIn (tgt := 580) hx hb dL_law_40 (by decide) (by decide) rfl (by decide) ?_
      exact lc_10 hC hX hbl hbA hl9 hax ham hi hcs hss hk hI hl
    · obtain rfl : q = 11 := eq.trans (by decide)
      refine lv_tableIn (tgt := 608) hx hb dL_law_40 (by decide) (by decide) rfl (by decide) ?_
      exact lc_11 hC hX hbl hbA hl9 hax ham hi hcs hss hk hI hl
    · obtain rfl : q = 12 := eq.trans (by decide)
      refine lv_tableIn (tgt := 660) hx hb dL_law_40 (by decide) (by decide) rfl (by decide) ?_
      exact lc_12 hC hX hbl hbA hl9 hax ham hi hcs hss hk hI hl
    · obtain rfl : q = 13 := eq.trans (by decide)
      refine lv_tableIn (tgt := 697) hx hb dL_law_40 (by decide) (by decide) rfl (by decide) ?_
      exact lc_13 hC hX hbl hbA hl9 hax ham hi hcs hss hk hI hl
    · obtain rfl : q = 14 := eq.trans (by decide)
      refine lv_tableIn (tgt := 746) hx hb dL_law_40 (by decide) (by decide) rfl (by decide) ?_
      exact lc_14 hC hX hbl hbA hl9 hax ham hi hcs hss hk hI hl
    · obtain rfl : q = 15 := eq.trans (by decide)
      refine lv_tableIn (tgt := 771) hx hb dL_law_40 (by decide) (by decide) rfl (by decide) ?_
      exact lc_15 hC hX hbl hbA hl9 hax ham hi hcs hss hk hI hl
    · obtain rfl : q = 16 := eq.trans (by decide)
      refine lv_tableIn (tgt := 796) hx hb dL_law_40 (by decide) (by decide) rfl (by decide) ?_
      exact lc_16 hC hX hbl hbA hl9 hax ham hi hcs hss hk hI hl
    · obtain rfl : q = 17 := eq.trans (by decide)
      refine lv_tableIn (tgt := 809) hx hb dL_law_40 (by decide) (by decide) rfl (by decide) ?_
      exact lc_17 hC hX hbl hbA hl9 hax ham hi hcs hss hk hI hl
    · obtain rfl : q = 18 := eq.trans (by decide)
      refine lv_tableIn (tgt := 822) hx hb dL_law_40 (by decide) (by decide) rfl (by decide) ?_
      exact lc_18 hC hX hbl hbA hl9 hax ham hi hcs hss hk hI hl
    · obtain rfl : q = 19 := eq.trans (by decide)
      refine lv_tableIn (tgt := 835) hx hb dL_law_40 (by decide) (by decide) rfl (by decide) ?_
      exact lc_19 hC hX hbl hbA hl9 hax ham hi hcs hss hk hI hl
    · obtain rfl : q = 20 := eq.trans (by decide)
      refine lv_tableIn (tgt := 860) hx hb dL_law_40 (by decide) (by decide) rfl (by decide) ?_
      exact lc_20 hC hX hbl hbA hl9 hax ham hi hcs hss hk hI hl
    · obtain rfl : q = 21 := eq.trans (by decide)
      refine lv_tableIn (tgt := 885) hx hb dL_law_40 (by decide) (by decide) rfl (by decide) ?_
      exact lc_21 hC hX hbl hbA hl9 hax ham hi hcs hss hk hI hl
    · obtain rfl : q = 22 := eq.trans (by decide)
      refine lv_tableIn (tgt := 938) hx hb dL_law_40 (by decide) (by decide) rfl (by decide) ?_
      exact lc_22 hC hX hbl hbA hl9 hax ham hi hcs hss hk hI hl
    · obtain rfl : q = 23 := eq.trans (by decide)
      refine lv_tableIn (tgt := 951) hx hb dL_law_40 (by decide) (by decide) rfl (by decide) ?_
      exact lc_23 hC hX hbl hbA hl9 hax ham hi hcs hss hk hI hl
    · obtain rfl : q = 24 := eq.trans (by decide)
      refine lv_tableIn (tgt := 964) hx hb dL_law_40 (by decide) (by decide) rfl (by decide) ?_
      exact lc_24 hC hX hbl hbA hl9 hax ham hi hcs hss hk hI hl
    · obtain rfl : q = 25 := eq.trans (by decide)
      refine lv_tableIn (tgt := 1001) hx hb dL_law_40 (by decide) (by decide) rfl (by decide) ?_
      exact lc_25 hC hX hbl hbA hl9 hax ham hi hcs hss hk hI hl
    · obtain rfl : q = 26 := eq.trans (by decide)
      refine lv_tableIn (tgt := 1014) hx hb dL_law_40 (by decide) (by decide) rfl (by decide) ?_
      exact lc_26 hC hX hbl hbA hl9 hax ham hi hcs hss hk hI hl
    · obtain rfl : q = 27 := eq.trans (by decide)
      refine lv_tableIn (tgt := 1039) hx hb dL_law_40 (by decide) (by decide) rfl (by decide) ?_
      exact lc_27 hC hX hbl hbA hl9 hax ham hi hcs hss hk hI hl
    · obtain rfl : q = 28 := eq.trans (by decide)
      refine lv_tableIn (tgt := 1103) hx hb dL_law_40 (by decide) (by decide) rfl (by decide) ?_
      exact lc_28 hC hX hbl hbA hl9 hax ham hi hcs hss hk hI hl
    · obtain rfl : q = 29 := eq.trans (by decide)
      refine lv_tableIn (tgt := 1128) hx hb dL_law_40 (by decide) (by decide) rfl (by decide) ?_
      exact lc_29 hC hX hbl hbA hl9 hax ham hi hcs hss hk hI hl
    · obtain rfl : q = 30 := eq.trans (by decide)
      refine lv_tableIn (tgt := 1180) hx hb dL_law_40 (by decide) (by decide) rfl (by decide) ?_
      exact lc_30 hC hX hbl hbA hl9 hax ham hi hcs hss hk hI hl
    · obtain rfl : q = 31 := eq.trans (by decide)
      refine lv_tableIn (tgt := 1233) hx hb dL_law_40 (by decide) (by decide) rfl (by decide) ?_
      exact lc_31 hC hX hbl hbA hl9 hax ham hi hcs hss hk hI hl

theorem fl_ne {f : Nat → Int32} {n : Nat} {rs : rRS} {k : Int32} (hn : n ≤ 1000) (h1 : 0 < k.toInt) (h2 : k.toInt ≤ 5) : ¬ (F_fail f n rs k).1 = 0 := by
  unfold F_fail
  split
  · rename_i h
    intro h9
    have h9 : k + 16 * nI (ts f n rs.2.1) = 0 := h9
    have h8 := congrArg Int32.toInt h9
    have hle : ts f n rs.2.1 ≤ n := ts_le
    rw [q_addT, q_mulT, nI_toInt (by omega), show (16 : Int32).toInt = 16 from by decide, q_bmod (z := 16 * ((ts f n rs.2.1 : Nat) : Int)) (by unfold i32lo; omega) (by unfold i32hi; omega), q_bmod (by unfold i32lo; omega) (by unfold i32hi; omega)] at h8
    have h8 : k.toInt + 16 * ((ts f n rs.2.1 : Nat) : Int) = 0 := h8
    omega
  · assumption
theorem pl_in {nm : Nat → Int64} {x : Int64} : ∀ (d i : Nat), pl nm x d i = -1 ∨ ∃ j, i ≤ j ∧ j < i + d ∧ nm j = x ∧ pl nm x d i = nI j
  | 0, i => .inl rfl
  | d + 1, i => by
    show (if nm i = x then nI i else pl nm x d (i + 1)) = -1 ∨ ∃ j, i ≤ j ∧ j < i + (d + 1) ∧ nm j = x ∧ (if nm i = x then nI i else pl nm x d (i + 1)) = nI j
    by_cases h : nm i = x
    · rw [if_pos h]
      exact .inr ⟨i, by omega, by omega, h, rfl⟩
    · rw [if_neg h]
      rcases pl_in d (i + 1) with h1 | ⟨j, h1, h2, h3, h4⟩
      · exact .inl h1
      · exact .inr ⟨j, by omega, by omega, h3, h4⟩
theorem fh_in {f : Nat → Int32} {n : Nat} {rs : rRS} {k : Int32} (hn : n ≤ 1000) (hk : k = -1 ∨ vp_in k 8) : vp_in (F_foundHere f n rs k).1 8 := by
  have h0 : vp_in 0 8 := k_in0 (by decide)
  unfold F_foundHere
  split
  · rw [if_neg (fl_ne hn (by decide) (by decide))]; exact h0
  · split
    · rw [if_neg (fl_ne hn (by decide) (by decide))]; exact h0
    · rename_i h1
      split
      · exact hk.resolve_left h1
      · exact h0
theorem th_in {f : Nat → Int32} {n : Nat} {rs : rRS} {a : aAS} (hn : n ≤ 1000) (hA : aOK a) : vp_in (F_thoughtHere f n rs a).1 8 := by
  refine fh_in hn ?_
  have hT : (a.2.2.2.2.2.2.2.1) ≤ 8 := hA.1
  unfold F_thoughtNamed
  rcases pl_in (nm := a.1) (x := rs.2.2.2) ((a.2.2.2.2.2.2.2.1)) 0 with h1 | ⟨j, h1, h2, h3, h4⟩
  · exact .inl h1
  · rw [h4]
    exact .inr (vp_in_nI (by omega) (by decide))
theorem dX11_isIn_0 : decode cX11_isIn 0 = .ok (.iload_n 0, 1) := by decide +kernel
theorem dX11_isIn_1 : decode cX11_isIn 1 = .ok (.iload_n 1, 1) := by decide +kernel
theorem dX11_isIn_2 : decode cX11_isIn 2 = .ok (.ishr, 1) := by decide +kernel
theorem dX11_isIn_3 : decode cX11_isIn 3 = .ok (.iconst 1, 1) := by decide +kernel
theorem dX11_isIn_4 : decode cX11_isIn 4 = .ok (.iand, 1) := by decide +kernel
theorem dX11_isIn_5 : decode cX11_isIn 5 = .ok (.ifCond .eq 7, 3) := by decide +kernel
theorem dX11_isIn_8 : decode cX11_isIn 8 = .ok (.iconst 1, 1) := by decide +kernel
theorem dX11_isIn_9 : decode cX11_isIn 9 = .ok (.goto 4, 3) := by decide +kernel
theorem dX11_isIn_12 : decode cX11_isIn 12 = .ok (.iconst 0, 1) := by decide +kernel
theorem dX11_isIn_13 : decode cX11_isIn 13 = .ok (.ireturn, 1) := by decide +kernel
theorem dX0_isTold_0 : decode cX0_isTold 0 = .ok (.aload_n 0, 1) := by decide +kernel
theorem dX0_isTold_1 : decode cX0_isTold 1 = .ok (.getfield 22, 3) := by decide +kernel
theorem dX0_isTold_4 : decode cX0_isTold 4 = .ok (.iload_n 2, 1) := by decide +kernel
theorem dX0_isTold_5 : decode cX0_isTold 5 = .ok (.iaload, 1) := by decide +kernel
theorem dX0_isTold_6 : decode cX0_isTold 6 = .ok (.iload_n 1, 1) := by decide +kernel
theorem dX0_isTold_7 : decode cX0_isTold 7 = .ok (.invokestatic 62, 3) := by decide +kernel
theorem dX0_isTold_10 : decode cX0_isTold 10 = .ok (.ireturn, 1) := by decide +kernel
theorem dX0_addFollower_0 : decode cX0_addFollower 0 = .ok (.aload_n 0, 1) := by decide +kernel
theorem dX0_addFollower_1 : decode cX0_addFollower 1 = .ok (.getfield 22, 3) := by decide +kernel
theorem dX0_addFollower_4 : decode cX0_addFollower 4 = .ok (.iload_n 2, 1) := by decide +kernel
theorem dX0_addFollower_5 : decode cX0_addFollower 5 = .ok (.dup2, 1) := by decide +kernel
theorem dX0_addFollower_6 : decode cX0_addFollower 6 = .ok (.iaload, 1) := by decide +kernel
theorem dX0_addFollower_7 : decode cX0_addFollower 7 = .ok (.iconst 1, 1) := by decide +kernel
theorem dX0_addFollower_8 : decode cX0_addFollower 8 = .ok (.iload_n 1, 1) := by decide +kernel
theorem dX0_addFollower_9 : decode cX0_addFollower 9 = .ok (.ishl, 1) := by decide +kernel
theorem dX0_addFollower_10 : decode cX0_addFollower 10 = .ok (.ior, 1) := by decide +kernel
theorem dX0_addFollower_11 : decode cX0_addFollower 11 = .ok (.iastore, 1) := by decide +kernel
theorem dX0_addFollower_12 : decode cX0_addFollower 12 = .ok (.return_, 1) := by decide +kernel
theorem dX0_addCode_0 : decode cX0_addCode 0 = .ok (.aload_n 0, 1) := by decide +kernel
theorem dX0_addCode_1 : decode cX0_addCode 1 = .ok (.getfield 59, 3) := by decide +kernel
theorem dX0_addCode_4 : decode cX0_addCode 4 = .ok (.sipush 1000, 3) := by decide +kernel
theorem dX0_addCode_7 : decode cX0_addCode 7 = .ok (.if_icmp .ge 23, 3) := by decide +kernel
theorem dX0_addCode_10 : decode cX0_addCode 10 = .ok (.aload_n 0, 1) := by decide +kernel
theorem dX0_addCode_11 : decode cX0_addCode 11 = .ok (.getfield 31, 3) := by decide +kernel
theorem dX0_addCode_14 : decode cX0_addCode 14 = .ok (.aload_n 0, 1) := by decide +kernel
theorem dX0_addCode_15 : decode cX0_addCode 15 = .ok (.getfield 59, 3) := by decide +kernel
theorem dX0_addCode_18 : decode cX0_addCode 18 = .ok (.iload_n 1, 1) := by decide +kernel
theorem dX0_addCode_19 : decode cX0_addCode 19 = .ok (.iastore, 1) := by decide +kernel
theorem dX0_addCode_20 : decode cX0_addCode 20 = .ok (.aload_n 0, 1) := by decide +kernel
theorem dX0_addCode_21 : decode cX0_addCode 21 = .ok (.dup, 1) := by decide +kernel
theorem dX0_addCode_22 : decode cX0_addCode 22 = .ok (.getfield 59, 3) := by decide +kernel
theorem dX0_addCode_25 : decode cX0_addCode 25 = .ok (.iconst 1, 1) := by decide +kernel
theorem dX0_addCode_26 : decode cX0_addCode 26 = .ok (.iadd, 1) := by decide +kernel
theorem dX0_addCode_27 : decode cX0_addCode 27 = .ok (.putfield 59, 3) := by decide +kernel
theorem dX0_addCode_30 : decode cX0_addCode 30 = .ok (.return_, 1) := by decide +kernel
theorem dX5_readFollows_0 : decode cX5_readFollows 0 = .ok (.aload_n 0, 1) := by decide +kernel
theorem dX5_readFollows_1 : decode cX5_readFollows 1 = .ok (.getfield 15, 3) := by decide +kernel
theorem dX5_readFollows_4 : decode cX5_readFollows 4 = .ok (.invokevirtual 125, 3) := by decide +kernel
theorem dX5_readFollows_7 : decode cX5_readFollows 7 = .ok (.aload_n 0, 1) := by decide +kernel
theorem dX5_readFollows_8 : decode cX5_readFollows 8 = .ok (.invokevirtual 152, 3) := by decide +kernel
theorem dX5_readFollows_11 : decode cX5_readFollows 11 = .ok (.istore_n 1, 1) := by decide +kernel
theorem dX5_readFollows_12 : decode cX5_readFollows 12 = .ok (.aload_n 0, 1) := by decide +kernel
theorem dX5_readFollows_13 : decode cX5_readFollows 13 = .ok (.invokevirtual 156, 3) := by decide +kernel
theorem dX5_readFollows_16 : decode cX5_readFollows 16 = .ok (.aload_n 0, 1) := by decide +kernel
theorem dX5_readFollows_17 : decode cX5_readFollows 17 = .ok (.invokevirtual 152, 3) := by decide +kernel
theorem dX5_readFollows_20 : decode cX5_readFollows 20 = .ok (.istore_n 2, 1) := by decide +kernel
theorem dX5_readFollows_21 : decode cX5_readFollows 21 = .ok (.aload_n 0, 1) := by decide +kernel
theorem dX5_readFollows_22 : decode cX5_readFollows 22 = .ok (.getfield 91, 3) := by decide +kernel
theorem dX5_readFollows_25 : decode cX5_readFollows 25 = .ok (.ifCond .ne 20, 3) := by decide +kernel
theorem dX5_readFollows_28 : decode cX5_readFollows 28 = .ok (.aload_n 0, 1) := by decide +kernel
theorem dX5_readFollows_29 : decode cX5_readFollows 29 = .ok (.getfield 19, 3) := by decide +kernel
theorem dX5_readFollows_32 : decode cX5_readFollows 32 = .ok (.iload_n 1, 1) := by decide +kernel
theorem dX5_readFollows_33 : decode cX5_readFollows 33 = .ok (.iload_n 2, 1) := by decide +kernel
theorem dX5_readFollows_34 : decode cX5_readFollows 34 = .ok (.invokevirtual 159, 3) := by decide +kernel
theorem dX5_readFollows_37 : decode cX5_readFollows 37 = .ok (.ifCond .eq 8, 3) := by decide +kernel
theorem dX5_readFollows_40 : decode cX5_readFollows 40 = .ok (.aload_n 0, 1) := by decide +kernel
theorem dX5_readFollows_41 : decode cX5_readFollows 41 = .ok (.iconst 3, 1) := by decide +kernel
theorem dX5_readFollows_42 : decode cX5_readFollows 42 = .ok (.invokevirtual 84, 3) := by decide +kernel
theorem dX5_readFollows_45 : decode cX5_readFollows 45 = .ok (.aload_n 0, 1) := by decide +kernel
theorem dX5_readFollows_46 : decode cX5_readFollows 46 = .ok (.invokevirtual 156, 3) := by decide +kernel
theorem dX5_readFollows_49 : decode cX5_readFollows 49 = .ok (.aload_n 0, 1) := by decide +kernel
theorem dX5_readFollows_50 : decode cX5_readFollows 50 = .ok (.bipush 59, 2) := by decide +kernel
theorem dX5_readFollows_52 : decode cX5_readFollows 52 = .ok (.invokevirtual 145, 3) := by decide +kernel
theorem dX5_readFollows_55 : decode cX5_readFollows 55 = .ok (.aload_n 0, 1) := by decide +kernel
theorem dX5_readFollows_56 : decode cX5_readFollows 56 = .ok (.getfield 91, 3) := by decide +kernel
theorem dX5_readFollows_59 : decode cX5_readFollows 59 = .ok (.ifCond .ne 12, 3) := by decide +kernel
theorem dX5_readFollows_62 : decode cX5_readFollows 62 = .ok (.aload_n 0, 1) := by decide +kernel
theorem dX5_readFollows_63 : decode cX5_readFollows 63 = .ok (.getfield 19, 3) := by decide +kernel
theorem dX5_readFollows_66 : decode cX5_readFollows 66 = .ok (.iload_n 1, 1) := by decide +kernel
theorem dX5_readFollows_67 : decode cX5_readFollows 67 = .ok (.iload_n 2, 1) := by decide +kernel
theorem dX5_readFollows_68 : decode cX5_readFollows 68 = .ok (.invokevirtual 163, 3) := by decide +kernel
theorem dX5_readFollows_71 : decode cX5_readFollows 71 = .ok (.return_, 1) := by decide +kernel
def F_isIn (x : Int32) (y : Int32) : Int32 :=
  if ((x >>> (y &&& 31)) &&& 1) = 0 then 0 else 1
set_option maxHeartbeats 4000000 in
set_option maxRecDepth 100000 in
theorem c_isIn (γ : kΓ) (l : Launch) (x : Int32) (y : Int32) : kM γ l yX11_isIn cX11_isIn 2 ((some .boolean)) ({ frames := 0, cells := 0, slots := 0, locals := 0 } : Room) [.int x, .int y] [] (fun r w1 => r = some (.int (F_isIn x y)) ∧ w1 = []) := by
  refine k_ofW (by decide) (Nat.le_of_ble_eq_true rfl) ?_
  intro p9 e s m below meth c A ls hC hr hlocks hname hw hl
  have hx := hC.1
  have hb := hC.2.1
  have hl : lv_has ls 2 [(0, .int x), (1, .int y)] := hl
  refine lv_iload_n hx hb dX11_isIn_0 rfl (lv_at hl 0 rfl) ?_
  refine lv_iload_n hx hb dX11_isIn_1 rfl (lv_at hl 1 rfl) ?_
  refine lv_ishr hx hb dX11_isIn_2 ?_
  refine lv_iconst (v := 1) hx hb dX11_isIn_3 (by decide) ?_
  refine lv_iand hx hb dX11_isIn_4 ?_
  refine lv_if_eq (tgt := 12) hx hb dX11_isIn_5 (by decide) (fun c_120 => ?_) (fun c_120 => ?_)
  · refine lv_iconst (v := 0) hx hb dX11_isIn_12 (by decide) ?_
    have hE : (F_isIn x y) = 0 := by unfold F_isIn; rw [if_pos c_120]
    have hw : kW γ A [] s s.heap [] := by first | (rw [hE]; exact hw) | exact hw
    exact k_zret hC hr hlocks rfl hw [] rfl rfl ⟨by rw [hE], rfl⟩ (by decide) (by decide) dX11_isIn_13
  · refine lv_iconst (v := 1) hx hb dX11_isIn_8 (by decide) ?_
    refine lv_goto (tgt := 13) hx hb dX11_isIn_9 (by decide) ?_
    have hE : (F_isIn x y) = 1 := by unfold F_isIn; rw [if_neg c_120]
    have hw : kW γ A [] s s.heap [] := by first | (rw [hE]; exact hw) | exact hw
    exact k_zret hC hr hlocks rfl hw [] rfl rfl ⟨by rw [hE], rfl⟩ (by decide) (by decide) dX11_isIn_13

theorem isIn_z {x y : Int32} : narrow .boolean (.int (F_isIn x y)) = .int (F_isIn x y) := by
  unfold F_isIn
  split
  · rfl
  · rfl

def F_isTold (a : aAS) (k : Int32) (q : Int32) : Int32 :=
  (F_isIn ((a.2.2.2.1) (q : Int32).toNatClampNeg) k)
set_option maxHeartbeats 4000000 in
set_option maxRecDepth 100000 in
theorem c_isTold (γ : kΓ) (l : Launch) (ab : Nat) (a0 : Nat) (a1 : Nat) (a2 : Nat) (a3 : Nat) (a4 : Nat) (a5 : Nat) (a6 : Nat) (a7 : Nat) (a : aAS) (k : Int32) (q : Int32) (hA : aOK a) (hq8 : vp_in q 8) : kM γ l yX0_isTold cX0_isTold 3 ((some .boolean)) ({ frames := 1, cells := 0, slots := 0, locals := 21 } : Room) [.ref ab, .int k, .int q] (aWd γ ab a0 a1 a2 a3 a4 a5 a6 a7 a) (fun r w1 => r = some (.int (F_isTold a k q)) ∧ w1 = (aWd γ ab a0 a1 a2 a3 a4 a5 a6 a7 a)) := by
  refine k_ofW (by decide) (Nat.le_of_ble_eq_true rfl) ?_
  intro p9 e s m below meth c A ls hC hr hlocks hname hw hl
  have hx := hC.1
  have hb := hC.2.1
  have hl : lv_has ls 3 [(0, .ref ab), (1, .int k), (2, .int q)] := hl
  have hT : (a.2.2.2.2.2.2.2.1) ≤ 8 := hA.1
  have hQ : (a.2.2.2.2.2.2.2.2.1) ≤ 5 := hA.2.1
  have hE9 : (a.2.2.2.2.2.2.2.2.2.2.2.2.2.1) ≤ 1000 := hA.2.2
  refine lv_aload_n hx hb dX0_isTold_0 rfl (lv_at hl 0 rfl) ?_
  refine fg_RX0_22 hC hw 0 rfl rfl dX0_isTold_1 ?_
  refine lv_iload_n hx hb dX0_isTold_4 rfl (lv_at hl 2 rfl) ?_
  refine k_iald hC hw 4 rfl hq8 dX0_isTold_5 ?_
  refine lv_iload_n hx hb dX0_isTold_6 rfl (lv_at hl 1 rfl) ?_
  refine k_SN (wr := (aWd γ ab a0 a1 a2 a3 a4 a5 a6 a7 a)) 2 nw_555 gw_556 gw_1 gw_557 hd_X11_isIn hC hw (c_isIn γ l ((a.2.2.2.1) (q : Int32).toNatClampNeg) k) ⟨by decide, by decide⟩ ⟨by decide, by decide⟩ hl.1 rfl rfl (Nat.le_of_ble_eq_true rfl) [] [0, 1, 2, 3, 4, 5, 6, 7] rfl rfl rfl rfl (by decide) dX0_isTold_7 (fun r w1 H locs hq hw => ?_)
  obtain ⟨rfl, rfl⟩ := hq
  have hw : kW γ A (aWd γ ab a0 a1 a2 a3 a4 a5 a6 a7 a) s H locs := hw
  refine W.eq (g2 := F0 m 10 ls [.int (F_isIn ((a.2.2.2.1) (q : Int32).toNatClampNeg) k)]) rfl ?_
  have hE : (F_isTold a k q) = (F_isIn ((a.2.2.2.1) (q : Int32).toNatClampNeg) k) := by unfold F_isTold; rfl
  have hw : kW γ A (aWd γ ab a0 a1 a2 a3 a4 a5 a6 a7 a) s H locs := by first | (rw [hE]; exact hw) | exact hw
  exact k_zret hC hr hlocks isIn_z hw [0, 1, 2, 3, 4, 5, 6, 7] rfl rfl ⟨by rw [hE], rfl⟩ (by decide) (by decide) dX0_isTold_10

def F_addFollower (a : aAS) (k : Int32) (q : Int32) : aAS :=
  ((a.1), (a.2.1), (a.2.2.1), (upd (a.2.2.2.1) (q : Int32).toNatClampNeg (((a.2.2.2.1) (q : Int32).toNatClampNeg) ||| (1 <<< (k &&& 31)))), (a.2.2.2.2.1), (a.2.2.2.2.2.1), (a.2.2.2.2.2.2.1), (a.2.2.2.2.2.2.2.1), (a.2.2.2.2.2.2.2.2.1), (a.2.2.2.2.2.2.2.2.2.1), (a.2.2.2.2.2.2.2.2.2.2.1), (a.2.2.2.2.2.2.2.2.2.2.2.1), (a.2.2.2.2.2.2.2.2.2.2.2.2.1), (a.2.2.2.2.2.2.2.2.2.2.2.2.2.1), (a.2.2.2.2.2.2.2.2.2.2.2.2.2.2.1), (a.2.2.2.2.2.2.2.2.2.2.2.2.2.2.2.1), (a.2.2.2.2.2.2.2.2.2.2.2.2.2.2.2.2.1), (a.2.2.2.2.2.2.2.2.2.2.2.2.2.2.2.2.2))
set_option maxHeartbeats 4000000 in
set_option maxRecDepth 100000 in
theorem c_addFollower (γ : kΓ) (l : Launch) (ab : Nat) (a0 : Nat) (a1 : Nat) (a2 : Nat) (a3 : Nat) (a4 : Nat) (a5 : Nat) (a6 : Nat) (a7 : Nat) (a : aAS) (k : Int32) (q : Int32) (hA : aOK a) (hq8 : vp_in q 8) : kM γ l yX0_addFollower cX0_addFollower 3 none ({ frames := 0, cells := 0, slots := 0, locals := 0 } : Room) [.ref ab, .int k, .int q] (aWd γ ab a0 a1 a2 a3 a4 a5 a6 a7 a) (fun r w1 => r = none ∧ w1 = (aWd γ ab a0 a1 a2 a3 a4 a5 a6 a7 (F_addFollower a k q))) := by
  refine k_ofW (by decide) (Nat.le_of_ble_eq_true rfl) ?_
  intro p9 e s m below meth c A ls hC hr hlocks hname hw hl
  have hx := hC.1
  have hb := hC.2.1
  have hl : lv_has ls 3 [(0, .ref ab), (1, .int k), (2, .int q)] := hl
  have hT : (a.2.2.2.2.2.2.2.1) ≤ 8 := hA.1
  have hQ : (a.2.2.2.2.2.2.2.2.1) ≤ 5 := hA.2.1
  have hE9 : (a.2.2.2.2.2.2.2.2.2.2.2.2.2.1) ≤ 1000 := hA.2.2
  refine lv_aload_n hx hb dX0_addFollower_0 rfl (lv_at hl 0 rfl) ?_
  refine fg_RX0_22 hC hw 0 rfl rfl dX0_addFollower_1 ?_
  refine lv_iload_n hx hb dX0_addFollower_4 rfl (lv_at hl 2 rfl) ?_
  refine lv_dup2_11 hx hb dX0_addFollower_5 rfl rfl ?_
  refine k_iald hC hw 4 rfl hq8 dX0_addFollower_6 ?_
  refine lv_iconst (v := 1) hx hb dX0_addFollower_7 (by decide) ?_
  refine lv_iload_n hx hb dX0_addFollower_8 rfl (lv_at hl 1 rfl) ?_
  refine lv_ishl hx hb dX0_addFollower_9 ?_
  refine lv_ior hx hb dX0_addFollower_10 ?_
  refine k_iast hC hw 4 rfl hq8 dX0_addFollower_11 (fun H locs hw => ?_)
  have hw : kW γ A (aWd γ ab a0 a1 a2 a3 a4 a5 a6 a7 ((a.1), (a.2.1), (a.2.2.1), (upd (a.2.2.2.1) (q : Int32).toNatClampNeg (((a.2.2.2.1) (q : Int32).toNatClampNeg) ||| (1 <<< (k &&& 31)))), (a.2.2.2.2.1), (a.2.2.2.2.2.1), (a.2.2.2.2.2.2.1), (a.2.2.2.2.2.2.2.1), (a.2.2.2.2.2.2.2.2.1), (a.2.2.2.2.2.2.2.2.2.1), (a.2.2.2.2.2.2.2.2.2.2.1), (a.2.2.2.2.2.2.2.2.2.2.2.1), (a.2.2.2.2.2.2.2.2.2.2.2.2.1), (a.2.2.2.2.2.2.2.2.2.2.2.2.2.1), (a.2.2.2.2.2.2.2.2.2.2.2.2.2.2.1), (a.2.2.2.2.2.2.2.2.2.2.2.2.2.2.2.1), (a.2.2.2.2.2.2.2.2.2.2.2.2.2.2.2.2.1), (a.2.2.2.2.2.2.2.2.2.2.2.2.2.2.2.2.2))) s H locs := hw
  have hE : (F_addFollower a k q) = ((a.1), (a.2.1), (a.2.2.1), (upd (a.2.2.2.1) (q : Int32).toNatClampNeg (((a.2.2.2.1) (q : Int32).toNatClampNeg) ||| (1 <<< (k &&& 31)))), (a.2.2.2.2.1), (a.2.2.2.2.2.1), (a.2.2.2.2.2.2.1), (a.2.2.2.2.2.2.2.1), (a.2.2.2.2.2.2.2.2.1), (a.2.2.2.2.2.2.2.2.2.1), (a.2.2.2.2.2.2.2.2.2.2.1), (a.2.2.2.2.2.2.2.2.2.2.2.1), (a.2.2.2.2.2.2.2.2.2.2.2.2.1), (a.2.2.2.2.2.2.2.2.2.2.2.2.2.1), (a.2.2.2.2.2.2.2.2.2.2.2.2.2.2.1), (a.2.2.2.2.2.2.2.2.2.2.2.2.2.2.2.1), (a.2.2.2.2.2.2.2.2.2.2.2.2.2.2.2.2.1), (a.2.2.2.2.2.2.2.2.2.2.2.2.2.2.2.2.2)) := by unfold F_addFollower; rfl
  have hw : kW γ A (aWd γ ab a0 a1 a2 a3 a4 a5 a6 a7 (F_addFollower a k q)) s H locs := by first | (rw [hE]; exact hw) | exact hw
  exact k_vret hC hr hlocks hw [0, 1, 2, 3, 4, 5, 6, 7] rfl rfl ⟨rfl, rfl⟩ (by decide) (by decide) dX0_addFollower_12

def F_addCode (a : aAS) (k : Int32) : aAS :=
  if 1000 ≤ (nI (a.2.2.2.2.2.2.2.2.2.2.2.2.2.1)) then a else ((a.1), (a.2.1), (a.2.2.1), (a.2.2.2.1), (a.2.2.2.2.1), (a.2.2.2.2.2.1), (upd (a.2.2.2.2.2.2.1) ((nI (a.2.2.2.2.2.2.2.2.2.2.2.2.2.1)) : Int32).toNatClampNeg k), (a.2.2.2.2.2.2.2.1), (a.2.2.2.2.2.2.2.2.1), (a.2.2.2.2.2.2.2.2.2.1), (a.2.2.2.2.2.2.2.2.2.2.1), (a.2.2.2.2.2.2.2.2.2.2.2.1), (a.2.2.2.2.2.2.2.2.2.2.2.2.1), ((a.2.2.2.2.2.2.2.2.2.2.2.2.2.1) + 1), (a.2.2.2.2.2.2.2.2.2.2.2.2.2.2.1), (a.2.2.2.2.2.2.2.2.2.2.2.2.2.2.2.1), (a.2.2.2.2.2.2.2.2.2.2.2.2.2.2.2.2.1), (a.2.2.2.2.2.2.2.2.2.2.2.2.2.2.2.2.2))
set_option maxHeartbeats 4000000 in
set_option maxRecDepth 100000 in
theorem c_addCode (γ : kΓ) (l : Launch) (ab : Nat) (a0 : Nat) (a1 : Nat) (a2 : Nat) (a3 : Nat) (a4 : Nat) (a5 : Nat) (a6 : Nat) (a7 : Nat) (a : aAS) (k : Int32) (hA : aOK a) : kM γ l yX0_addCode cX0_addCode 2 none ({ frames := 0, cells := 0, slots := 0, locals := 0 } : Room) [.ref ab, .int k] (aWd γ ab a0 a1 a2 a3 a4 a5 a6 a7 a) (fun r w1 => r = none ∧ w1 = (aWd γ ab a0 a1 a2 a3 a4 a5 a6 a7 (F_addCode a k))) := by
  refine k_ofW (by decide) (Nat.le_of_ble_eq_true rfl) ?_
  intro p9 e s m below meth c A ls hC hr hlocks hname hw hl
  have hx := hC.1
  have hb := hC.2.1
  have hl : lv_has ls 2 [(0, .ref ab), (1, .int k)] := hl
  have hT : (a.2.2.2.2.2.2.2.1) ≤ 8 := hA.1
  have hQ : (a.2.2.2.2.2.2.2.2.1) ≤ 5 := hA.2.1
  have hE9 : (a.2.2.2.2.2.2.2.2.2.2.2.2.2.1) ≤ 1000 := hA.2.2
  refine lv_aload_n hx hb dX0_addCode_0 rfl (lv_at hl 0 rfl) ?_
  refine fg_RX0_59 hC hw 0 rfl rfl dX0_addCode_1 ?_
  refine lv_sipush (v := 1000) hx hb dX0_addCode_4 (by decide) ?_
  refine lv_icmp_ge (tgt := 30) hx hb dX0_addCode_7 (by decide) (fun c_123 => ?_) (fun c_123 => ?_)
  · have hE : (F_addCode a k) = a := by unfold F_addCode; rw [if_pos c_123]
    have hw : kW γ A (aWd γ ab a0 a1 a2 a3 a4 a5 a6 a7 (F_addCode a k)) s s.heap [] := by first | (rw [hE]; exact hw) | exact hw
    exact k_vret hC hr hlocks hw [0, 1, 2, 3, 4, 5, 6, 7] rfl rfl ⟨rfl, rfl⟩ (by decide) (by decide) dX0_addCode_30
  · refine lv_aload_n hx hb dX0_addCode_10 rfl (lv_at hl 0 rfl) ?_
    refine fg_RX0_31 hC hw 0 rfl rfl dX0_addCode_11 ?_
    refine lv_aload_n hx hb dX0_addCode_14 rfl (lv_at hl 0 rfl) ?_
    refine fg_RX0_59 hC hw 0 rfl rfl dX0_addCode_15 ?_
    refine lv_iload_n hx hb dX0_addCode_18 rfl (lv_at hl 1 rfl) ?_
    refine k_iast hC hw 7 rfl (vp_in_nI (lt_c (T := (a.2.2.2.2.2.2.2.2.2.2.2.2.2.1)) (k := 1000) (by decide) (by omega) c_123) (by decide)) dX0_addCode_19 (fun H locs hw => ?_)
    have hw : kW γ A (aWd γ ab a0 a1 a2 a3 a4 a5 a6 a7 ((a.1), (a.2.1), (a.2.2.1), (a.2.2.2.1), (a.2.2.2.2.1), (a.2.2.2.2.2.1), (upd (a.2.2.2.2.2.2.1) ((nI (a.2.2.2.2.2.2.2.2.2.2.2.2.2.1)) : Int32).toNatClampNeg k), (a.2.2.2.2.2.2.2.1), (a.2.2.2.2.2.2.2.2.1), (a.2.2.2.2.2.2.2.2.2.1), (a.2.2.2.2.2.2.2.2.2.2.1), (a.2.2.2.2.2.2.2.2.2.2.2.1), (a.2.2.2.2.2.2.2.2.2.2.2.2.1), (a.2.2.2.2.2.2.2.2.2.2.2.2.2.1), (a.2.2.2.2.2.2.2.2.2.2.2.2.2.2.1), (a.2.2.2.2.2.2.2.2.2.2.2.2.2.2.2.1), (a.2.2.2.2.2.2.2.2.2.2.2.2.2.2.2.2.1), (a.2.2.2.2.2.2.2.2.2.2.2.2.2.2.2.2.2))) s H locs := hw
    refine lv_aload_n hx hb dX0_addCode_20 rfl (lv_at hl 0 rfl) ?_
    refine lv_dup hx hb dX0_addCode_21 rfl ?_
    refine fg_RX0_59 hC hw 0 rfl rfl dX0_addCode_22 ?_
    refine lv_iconst (v := 1) hx hb dX0_addCode_25 (by decide) ?_
    refine lv_iadd hx hb dX0_addCode_26 ?_
    refine lv_topi (fun x_124 ex_124 => ?_)
    obtain rfl : x_124 = (nI ((a.2.2.2.2.2.2.2.2.2.2.2.2.2.1) + 1)) := ex_124.trans (nI_1 _)
    refine fs_RX0_59 hC hw 0 rfl rfl rfl (Nat.le_of_ble_eq_true rfl) dX0_addCode_27 (fun H locs hw => ?_)
    have hw : kW γ A (aWd γ ab a0 a1 a2 a3 a4 a5 a6 a7 ((a.1), (a.2.1), (a.2.2.1), (a.2.2.2.1), (a.2.2.2.2.1), (a.2.2.2.2.2.1), (upd (a.2.2.2.2.2.2.1) ((nI (a.2.2.2.2.2.2.2.2.2.2.2.2.2.1)) : Int32).toNatClampNeg k), (a.2.2.2.2.2.2.2.1), (a.2.2.2.2.2.2.2.2.1), (a.2.2.2.2.2.2.2.2.2.1), (a.2.2.2.2.2.2.2.2.2.2.1), (a.2.2.2.2.2.2.2.2.2.2.2.1), (a.2.2.2.2.2.2.2.2.2.2.2.2.1), ((a.2.2.2.2.2.2.2.2.2.2.2.2.2.1) + 1), (a.2.2.2.2.2.2.2.2.2.2.2.2.2.2.1), (a.2.2.2.2.2.2.2.2.2.2.2.2.2.2.2.1), (a.2.2.2.2.2.2.2.2.2.2.2.2.2.2.2.2.1), (a.2.2.2.2.2.2.2.2.2.2.2.2.2.2.2.2.2))) s H locs := hw
    have hE : (F_addCode a k) = ((a.1), (a.2.1), (a.2.2.1), (a.2.2.2.1), (a.2.2.2.2.1), (a.2.2.2.2.2.1), (upd (a.2.2.2.2.2.2.1) ((nI (a.2.2.2.2.2.2.2.2.2.2.2.2.2.1)) : Int32).toNatClampNeg k), (a.2.2.2.2.2.2.2.1), (a.2.2.2.2.2.2.2.2.1), (a.2.2.2.2.2.2.2.2.2.1), (a.2.2.2.2.2.2.2.2.2.2.1), (a.2.2.2.2.2.2.2.2.2.2.2.1), (a.2.2.2.2.2.2.2.2.2.2.2.2.1), ((a.2.2.2.2.2.2.2.2.2.2.2.2.2.1) + 1), (a.2.2.2.2.2.2.2.2.2.2.2.2.2.2.1), (a.2.2.2.2.2.2.2.2.2.2.2.2.2.2.2.1), (a.2.2.2.2.2.2.2.2.2.2.2.2.2.2.2.2.1), (a.2.2.2.2.2.2.2.2.2.2.2.2.2.2.2.2.2)) := by unfold F_addCode; rw [if_neg c_123]
    have hw : kW γ A (aWd γ ab a0 a1 a2 a3 a4 a5 a6 a7 (F_addCode a k)) s H locs := by first | (rw [hE]; exact hw) | exact hw
    exact k_vret hC hr hlocks hw [0, 1, 2, 3, 4, 5, 6, 7] rfl rfl ⟨rfl, rfl⟩ (by decide) (by decide) dX0_addCode_30

def F_readFollows (f : Nat → Int32) (n : Nat) (rs : rRS) (a : aAS) : rRS × aAS :=
  if (((F_thoughtHere f n (F_passUF f n ((F_thoughtHere f n (av f n rs) a).2)) a).2).1) = 0 then (if (F_isTold a ((F_thoughtHere f n (av f n rs) a).1) ((F_thoughtHere f n (F_passUF f n ((F_thoughtHere f n (av f n rs) a).2)) a).1)) = 0 then (if ((F_passSign f n (F_passUF f n ((F_thoughtHere f n (F_passUF f n ((F_thoughtHere f n (av f n rs) a).2)) a).2)) 59).1) = 0 then ((F_passSign f n (F_passUF f n ((F_thoughtHere f n (F_passUF f n ((F_thoughtHere f n (av f n rs) a).2)) a).2)) 59), (F_addFollower a ((F_thoughtHere f n (av f n rs) a).1) ((F_thoughtHere f n (F_passUF f n ((F_thoughtHere f n (av f n rs) a).2)) a).1))) else ((F_passSign f n (F_passUF f n ((F_thoughtHere f n (F_passUF f n ((F_thoughtHere f n (av f n rs) a).2)) a).2)) 59), a)) else (if ((F_passSign f n (F_passUF f n (F_fail f n ((F_thoughtHere f n (F_passUF f n ((F_thoughtHere f n (av f n rs) a).2)) a).2) 3)) 59).1) = 0 then ((F_passSign f n (F_passUF f n (F_fail f n ((F_thoughtHere f n (F_passUF f n ((F_thoughtHere f n (av f n rs) a).2)) a).2) 3)) 59), (F_addFollower a ((F_thoughtHere f n (av f n rs) a).1) ((F_thoughtHere f n (F_passUF f n ((F_thoughtHere f n (av f n rs) a).2)) a).1))) else ((F_passSign f n (F_passUF f n (F_fail f n ((F_thoughtHere f n (F_passUF f n ((F_thoughtHere f n (av f n rs) a).2)) a).2) 3)) 59), a))) else (if ((F_passSign f n (F_passUF f n ((F_thoughtHere f n (F_passUF f n ((F_thoughtHere f n (av f n rs) a).2)) a).2)) 59).1) = 0 then ((F_passSign f n (F_passUF f n ((F_thoughtHere f n (F_passUF f n ((F_thoughtHere f n (av f n rs) a).2)) a).2)) 59), (F_addFollower a ((F_thoughtHere f n (av f n rs) a).1) ((F_thoughtHere f n (F_passUF f n ((F_thoughtHere f n (av f n rs) a).2)) a).1))) else ((F_passSign f n (F_passUF f n ((F_thoughtHere f n (F_passUF f n ((F_thoughtHere f n (av f n rs) a).2)) a).2)) 59), a))
set_option maxHeartbeats 4000000 in
set_option maxRecDepth 100000 in
theorem c_readFollows (γ : kΓ) (l : Launch) (rr : Nat) (rl : Nat) (ab : Nat) (mn : Int32) (h : Nat) (hg : Nat) (n : Nat) (rs : rRS) (f : Nat → Int32) (a0 : Nat) (a1 : Nat) (a2 : Nat) (a3 : Nat) (a4 : Nat) (a5 : Nat) (a6 : Nat) (a7 : Nat) (a : aAS) (hn : n ≤ 1000) (hok : ∀ k, k < n → kok (f k) = true) (hA : aOK a) : kM γ l yX5_readFollows cX5_readFollows 3 none ({ frames := 3, cells := 0, slots := 0, locals := 82 } : Room) [.ref rr] ([(rr, .inr (5, [.ref h, .ref rl, .ref ab, .int mn, .int (rs.1)]))] ++ (tWd γ h hg n f (rs.2.1) (rs.2.2.1) (rs.2.2.2)) ++ (aWd γ ab a0 a1 a2 a3 a4 a5 a6 a7 a)) (fun r w1 => r = none ∧ w1 = ([(rr, .inr (5, [.ref h, .ref rl, .ref ab, .int mn, .int (((F_readFollows f n rs a).1).1)]))] ++ (tWd γ h hg n f (((F_readFollows f n rs a).1).2.1) (((F_readFollows f n rs a).1).2.2.1) (((F_readFollows f n rs a).1).2.2.2)) ++ (aWd γ ab a0 a1 a2 a3 a4 a5 a6 a7 ((F_readFollows f n rs a).2)))) := by
  refine k_ofW (by decide) (Nat.le_of_ble_eq_true rfl) ?_
  intro p9 e s m below meth c A ls hC hr hlocks hname hw hl
  have hx := hC.1
  have hb := hC.2.1
  have hl : lv_has ls 3 [(0, .ref rr)] := hl
  have hT : (a.2.2.2.2.2.2.2.1) ≤ 8 := hA.1
  have hQ : (a.2.2.2.2.2.2.2.2.1) ≤ 5 := hA.2.1
  have hE9 : (a.2.2.2.2.2.2.2.2.2.2.2.2.2.1) ≤ 1000 := hA.2.2
  refine lv_aload_n hx hb dX5_readFollows_0 rfl (lv_at hl 0 rfl) ?_
  refine fg_RX5_15 hC hw 0 rfl rfl dX5_readFollows_1 ?_
  refine k_V (wr := ([(rr, .inr (5, [.ref h, .ref rl, .ref ab, .int mn, .int (rs.1)]))] ++ (aWd γ ab a0 a1 a2 a3 a4 a5 a6 a7 a))) 0 gw_497 gw_461 gw_462 gw_2 gw_463 hd_X8_advance hC hw (c_av γ l h hg n rs f hn hok) ⟨by decide, by decide⟩ ⟨by decide, by decide⟩ hl.1 rfl 1 rfl rfl rfl (Nat.le_of_ble_eq_true rfl) [1, 2] [0, 3, 4, 5, 6, 7, 8, 9, 10] rfl rfl rfl rfl (by decide) dX5_readFollows_4 (fun r w1 H locs hq hw => ?_)
  obtain ⟨rfl, rfl⟩ := hq
  have hw : kW γ A ([(rr, .inr (5, [.ref h, .ref rl, .ref ab, .int mn, .int (rs.1)]))] ++ (aWd γ ab a0 a1 a2 a3 a4 a5 a6 a7 a) ++ (tWd γ h hg n f ((av f n rs).2.1) ((av f n rs).2.2.1) ((av f n rs).2.2.2))) s H locs := hw
  refine W.eq (g2 := F0 m 7 ls []) rfl ?_
  refine lv_aload_n hx hb dX5_readFollows_7 rfl (lv_at hl 0 rfl) ?_
  refine k_V (wr := []) 0 gw_543 gw_545 gp_12 gw_14 gw_546 hd_X5_thoughtHere hC hw (c_thoughtHere γ l rr rl ab mn h hg n (av f n rs) f a0 a1 a2 a3 a4 a5 a6 a7 a hn hok hA) ⟨by decide, by decide⟩ ⟨by decide, by decide⟩ hl.1 rfl 0 rfl rfl rfl (Nat.le_of_ble_eq_true rfl) [0, 9, 10, 1, 2, 3, 4, 5, 6, 7, 8] [] rfl rfl rfl rfl (by decide) dX5_readFollows_8 (fun r w1 H locs hq hw => ?_)
  obtain ⟨rfl, rfl⟩ := hq
  have hw : kW γ A ([(rr, .inr (5, [.ref h, .ref rl, .ref ab, .int mn, .int (((F_thoughtHere f n (av f n rs) a).2).1)]))] ++ (tWd γ h hg n f (((F_thoughtHere f n (av f n rs) a).2).2.1) (((F_thoughtHere f n (av f n rs) a).2).2.2.1) (((F_thoughtHere f n (av f n rs) a).2).2.2.2)) ++ (aWd γ ab a0 a1 a2 a3 a4 a5 a6 a7 a)) s H locs := hw
  refine W.eq (g2 := F0 m 11 ls [.int ((F_thoughtHere f n (av f n rs) a).1)]) rfl ?_
  refine lv_istore_n (lv' := [(1, .int ((F_thoughtHere f n (av f n rs) a).1)), (0, .ref rr)]) hx hb dX5_readFollows_11 rfl hl (by decide) rfl (fun ls hl => ?_)
  refine lv_aload_n hx hb dX5_readFollows_12 rfl (lv_at hl 1 rfl) ?_
  refine k_V (wr := (aWd γ ab a0 a1 a2 a3 a4 a5 a6 a7 a)) 0 gw_513 gw_515 gp_7 gw_14 gw_516 hd_X5_passUnlessFault hC hw (c_passUF γ l rr rl ab mn h hg n ((F_thoughtHere f n (av f n rs) a).2) f hn hok) ⟨by decide, by decide⟩ ⟨by decide, by decide⟩ hl.1 rfl 0 rfl rfl rfl (Nat.le_of_ble_eq_true rfl) [0, 1, 2] [3, 4, 5, 6, 7, 8, 9, 10] rfl rfl rfl rfl (by decide) dX5_readFollows_13 (fun r w1 H locs hq hw => ?_)
  obtain ⟨rfl, rfl⟩ := hq
  have hw : kW γ A ((aWd γ ab a0 a1 a2 a3 a4 a5 a6 a7 a) ++ [(rr, .inr (5, [.ref h, .ref rl, .ref ab, .int mn, .int ((F_passUF f n ((F_thoughtHere f n (av f n rs) a).2)).1)]))] ++ (tWd γ h hg n f ((F_passUF f n ((F_thoughtHere f n (av f n rs) a).2)).2.1) ((F_passUF f n ((F_thoughtHere f n (av f n rs) a).2)).2.2.1) ((F_passUF f n ((F_thoughtHere f n (av f n rs) a).2)).2.2.2))) s H locs := hw
  refine W.eq (g2 := F0 m 16 ls []) rfl ?_
  refine lv_aload_n hx hb dX5_readFollows_16 rfl (lv_at hl 1 rfl) ?_
  refine k_V (wr := []) 0 gw_543 gw_545 gp_12 gw_14 gw_546 hd_X5_thoughtHere hC hw (c_thoughtHere γ l rr rl ab mn h hg n (F_passUF f n ((F_thoughtHere f n (av f n rs) a).2)) f a0 a1 a2 a3 a4 a5 a6 a7 a hn hok hA) ⟨by decide, by decide⟩ ⟨by decide, by decide⟩ hl.1 rfl 8 rfl rfl rfl (Nat.le_of_ble_eq_true rfl) [8, 9, 10, 0, 1, 2, 3, 4, 5, 6, 7] [] rfl rfl rfl rfl (by decide) dX5_readFollows_17 (fun r w1 H locs hq hw => ?_)
  obtain ⟨rfl, rfl⟩ := hq
  have hw : kW γ A ([(rr, .inr (5, [.ref h, .ref rl, .ref ab, .int mn, .int (((F_thoughtHere f n (F_passUF f n ((F_thoughtHere f n (av f n rs) a).2)) a).2).1)]))] ++ (tWd γ h hg n f (((F_thoughtHere f n (F_passUF f n ((F_thoughtHere f n (av f n rs) a).2)) a).2).2.1) (((F_thoughtHere f n (F_passUF f n ((F_thoughtHere f n (av f n rs) a).2)) a).2).2.2.1) (((F_thoughtHere f n (F_passUF f n ((F_thoughtHere f n (av f n rs) a).2)) a).2).2.2.2)) ++ (aWd γ ab a0 a1 a2 a3 a4 a5 a6 a7 a)) s H locs := hw
  refine W.eq (g2 := F0 m 20 ls [.int ((F_thoughtHere f n (F_passUF f n ((F_thoughtHere f n (av f n rs) a).2)) a).1)]) rfl ?_
  refine lv_istore_n (lv' := [(2, .int ((F_thoughtHere f n (F_passUF f n ((F_thoughtHere f n (av f n rs) a).2)) a).1)), (1, .int ((F_thoughtHere f n (av f n rs) a).1)), (0, .ref rr)]) hx hb dX5_readFollows_20 rfl hl (by decide) rfl (fun ls hl => ?_)
  refine lv_aload_n hx hb dX5_readFollows_21 rfl (lv_at hl 2 rfl) ?_
  refine fg_RX5_91 hC hw 0 rfl rfl dX5_readFollows_22 ?_
  refine lv_if_ne (tgt := 45) hx hb dX5_readFollows_25 (by decide) (fun c_130 => ?_) (fun c_130 => ?_)
  · refine lv_aload_n hx hb dX5_readFollows_45 rfl (lv_at hl 2 rfl) ?_
    refine k_V (wr := (aWd γ ab a0 a1 a2 a3 a4 a5 a6 a7 a)) 0 gw_513 gw_515 gp_7 gw_14 gw_516 hd_X5_passUnlessFault hC hw (c_passUF γ l rr rl ab mn h hg n ((F_thoughtHere f n (F_passUF f n ((F_thoughtHere f n (av f n rs) a).2)) a).2) f hn hok) ⟨by decide, by decide⟩ ⟨by decide, by decide⟩ hl.1 rfl 0 rfl rfl rfl (Nat.le_of_ble_eq_true rfl) [0, 1, 2] [3, 4, 5, 6, 7, 8, 9, 10] rfl rfl rfl rfl (by decide) dX5_readFollows_46 (fun r w1 H locs hq hw => ?_)
    obtain ⟨rfl, rfl⟩ := hq
    have hw : kW γ A ((aWd γ ab a0 a1 a2 a3 a4 a5 a6 a7 a) ++ [(rr, .inr (5, [.ref h, .ref rl, .ref ab, .int mn, .int ((F_passUF f n ((F_thoughtHere f n (F_passUF f n ((F_thoughtHere f n (av f n rs) a).2)) a).2)).1)]))] ++ (tWd γ h hg n f ((F_passUF f n ((F_thoughtHere f n (F_passUF f n ((F_thoughtHere f n (av f n rs) a).2)) a).2)).2.1) ((F_passUF f n ((F_thoughtHere f n (F_passUF f n ((F_thoughtHere f n (av f n rs) a).2)) a).2)).2.2.1) ((F_passUF f n ((F_thoughtHere f n (F_passUF f n ((F_thoughtHere f n (av f n rs) a).2)) a).2)).2.2.2))) s H locs := hw
    refine W.eq (g2 := F0 m 49 ls []) rfl ?_
    refine lv_aload_n hx hb dX5_readFollows_49 rfl (lv_at hl 2 rfl) ?_
    refine lv_bipush (v := 59) hx hb dX5_readFollows_50 (by decide) ?_
    refine k_V (wr := (aWd γ ab a0 a1 a2 a3 a4 a5 a6 a7 a)) 1 gw_529 gw_531 gp_10 gw_14 gw_532 hd_X5_passSign hC hw (c_passSign γ l rr rl ab mn h hg n (F_passUF f n ((F_thoughtHere f n (F_passUF f n ((F_thoughtHere f n (av f n rs) a).2)) a).2)) f 59 hn hok) ⟨by decide, by decide⟩ ⟨by decide, by decide⟩ hl.1 rfl 8 rfl rfl rfl (Nat.le_of_ble_eq_true rfl) [8, 9, 10] [0, 1, 2, 3, 4, 5, 6, 7] rfl rfl rfl rfl (by decide) dX5_readFollows_52 (fun r w1 H locs hq hw => ?_)
    obtain ⟨rfl, rfl⟩ := hq
    have hw : kW γ A ((aWd γ ab a0 a1 a2 a3 a4 a5 a6 a7 a) ++ [(rr, .inr (5, [.ref h, .ref rl, .ref ab, .int mn, .int ((F_passSign f n (F_passUF f n ((F_thoughtHere f n (F_passUF f n ((F_thoughtHere f n (av f n rs) a).2)) a).2)) 59).1)]))] ++ (tWd γ h hg n f ((F_passSign f n (F_passUF f n ((F_thoughtHere f n (F_passUF f n ((F_thoughtHere f n (av f n rs) a).2)) a).2)) 59).2.1) ((F_passSign f n (F_passUF f n ((F_thoughtHere f n (F_passUF f n ((F_thoughtHere f n (av f n rs) a).2)) a).2)) 59).2.2.1) ((F_passSign f n (F_passUF f n ((F_thoughtHere f n (F_passUF f n ((F_thoughtHere f n (av f n rs) a).2)) a).2)) 59).2.2.2))) s H locs := hw
    refine W.eq (g2 := F0 m 55 ls []) rfl ?_
    refine lv_aload_n hx hb dX5_readFollows_55 rfl (lv_at hl 2 rfl) ?_
    refine fg_RX5_91 hC hw 8 rfl rfl dX5_readFollows_56 ?_
    refine lv_if_ne (tgt := 71) hx hb dX5_readFollows_59 (by decide) (fun c_131 => ?_) (fun c_131 => ?_)
    · have hE : (F_readFollows f n rs a) = ((F_passSign f n (F_passUF f n ((F_thoughtHere f n (F_passUF f n ((F_thoughtHere f n (av f n rs) a).2)) a).2)) 59), a) := by unfold F_readFollows; rw [if_neg c_130, if_neg c_131]
      have hw : kW γ A ((aWd γ ab a0 a1 a2 a3 a4 a5 a6 a7 ((F_readFollows f n rs a).2)) ++ [(rr, .inr (5, [.ref h, .ref rl, .ref ab, .int mn, .int (((F_readFollows f n rs a).1).1)]))] ++ (tWd γ h hg n f (((F_readFollows f n rs a).1).2.1) (((F_readFollows f n rs a).1).2.2.1) (((F_readFollows f n rs a).1).2.2.2))) s H locs := by first | (rw [hE]; exact hw) | exact hw
      exact k_vret hC hr hlocks hw [8, 9, 10, 0, 1, 2, 3, 4, 5, 6, 7] rfl rfl ⟨rfl, rfl⟩ (by decide) (by decide) dX5_readFollows_71
    · refine lv_aload_n hx hb dX5_readFollows_62 rfl (lv_at hl 2 rfl) ?_
      refine fg_RX5_19 hC hw 8 rfl rfl dX5_readFollows_63 ?_
      refine lv_iload_n hx hb dX5_readFollows_66 rfl (lv_at hl 1 rfl) ?_
      refine lv_iload_n hx hb dX5_readFollows_67 rfl (lv_at hl 0 rfl) ?_
      refine k_V (wr := ([(rr, .inr (5, [.ref h, .ref rl, .ref ab, .int mn, .int ((F_passSign f n (F_passUF f n ((F_thoughtHere f n (F_passUF f n ((F_thoughtHere f n (av f n rs) a).2)) a).2)) 59).1)]))] ++ (tWd γ h hg n f ((F_passSign f n (F_passUF f n ((F_thoughtHere f n (F_passUF f n ((F_thoughtHere f n (av f n rs) a).2)) a).2)) 59).2.1) ((F_passSign f n (F_passUF f n ((F_thoughtHere f n (F_passUF f n ((F_thoughtHere f n (av f n rs) a).2)) a).2)) 59).2.2.1) ((F_passSign f n (F_passUF f n ((F_thoughtHere f n (F_passUF f n ((F_thoughtHere f n (av f n rs) a).2)) a).2)) 59).2.2.2)))) 2 gw_558 gw_559 gw_560 gw_13 gw_561 hd_X0_addFollower hC hw (c_addFollower γ l ab a0 a1 a2 a3 a4 a5 a6 a7 a ((F_thoughtHere f n (av f n rs) a).1) ((F_thoughtHere f n (F_passUF f n ((F_thoughtHere f n (av f n rs) a).2)) a).1) hA (th_in hn hA)) ⟨by decide, by decide⟩ ⟨by decide, by decide⟩ hl.1 rfl 0 rfl rfl rfl (Nat.le_of_ble_eq_true rfl) [0, 1, 2, 3, 4, 5, 6, 7] [8, 9, 10] rfl rfl rfl rfl (by decide) dX5_readFollows_68 (fun r w1 H locs hq hw => ?_)
      obtain ⟨rfl, rfl⟩ := hq
      have hw : kW γ A ([(rr, .inr (5, [.ref h, .ref rl, .ref ab, .int mn, .int ((F_passSign f n (F_passUF f n ((F_thoughtHere f n (F_passUF f n ((F_thoughtHere f n (av f n rs) a).2)) a).2)) 59).1)]))] ++ (tWd γ h hg n f ((F_passSign f n (F_passUF f n ((F_thoughtHere f n (F_passUF f n ((F_thoughtHere f n (av f n rs) a).2)) a).2)) 59).2.1) ((F_passSign f n (F_passUF f n ((F_thoughtHere f n (F_passUF f n ((F_thoughtHere f n (av f n rs) a).2)) a).2)) 59).2.2.1) ((F_passSign f n (F_passUF f n ((F_thoughtHere f n (F_passUF f n ((F_thoughtHere f n (av f n rs) a).2)) a).2)) 59).2.2.2)) ++ (aWd γ ab a0 a1 a2 a3 a4 a5 a6 a7 (F_addFollower a ((F_thoughtHere f n (av f n rs) a).1) ((F_thoughtHere f n (F_passUF f n ((F_thoughtHere f n (av f n rs) a).2)) a).1)))) s H locs := hw
      refine W.eq (g2 := F0 m 71 ls []) rfl ?_
      have hE : (F_readFollows f n rs a) = ((F_passSign f n (F_passUF f n ((F_thoughtHere f n (F_passUF f n ((F_thoughtHere f n (av f n rs) a).2)) a).2)) 59), (F_addFollower a ((F_thoughtHere f n (av f n rs) a).1) ((F_thoughtHere f n (F_passUF f n ((F_thoughtHere f n (av f n rs) a).2)) a).1))) := by unfold F_readFollows; rw [if_neg c_130, if_pos c_131]
      have hw : kW γ A ([(rr, .inr (5, [.ref h, .ref rl, .ref ab, .int mn, .int (((F_readFollows f n rs a).1).1)]))] ++ (tWd γ h hg n f (((F_readFollows f n rs a).1).2.1) (((F_readFollows f n rs a).1).2.2.1) (((F_readFollows f n rs a).1).2.2.2)) ++ (aWd γ ab a0 a1 a2 a3 a4 a5 a6 a7 ((F_readFollows f n rs a).2))) s H locs := by first | (rw [hE]; exact hw) | exact hw
      exact k_vret hC hr hlocks hw [0, 1, 2, 3, 4, 5, 6, 7, 8, 9, 10] rfl rfl ⟨rfl, rfl⟩ (by decide) (by decide) dX5_readFollows_71
  · refine lv_aload_n hx hb dX5_readFollows_28 rfl (lv_at hl 2 rfl) ?_
    refine fg_RX5_19 hC hw 0 rfl rfl dX5_readFollows_29 ?_
    refine lv_iload_n hx hb dX5_readFollows_32 rfl (lv_at hl 1 rfl) ?_
    refine lv_iload_n hx hb dX5_readFollows_33 rfl (lv_at hl 0 rfl) ?_
    refine k_V (wr := ([(rr, .inr (5, [.ref h, .ref rl, .ref ab, .int mn, .int (((F_thoughtHere f n (F_passUF f n ((F_thoughtHere f n (av f n rs) a).2)) a).2).1)]))] ++ (tWd γ h hg n f (((F_thoughtHere f n (F_passUF f n ((F_thoughtHere f n (av f n rs) a).2)) a).2).2.1) (((F_thoughtHere f n (F_passUF f n ((F_thoughtHere f n (av f n rs) a).2)) a).2).2.2.1) (((F_thoughtHere f n (F_passUF f n ((F_thoughtHere f n (av f n rs) a).2)) a).2).2.2.2)))) 2 gw_551 gw_552 gw_553 gw_13 gw_554 hd_X0_isTold hC hw (c_isTold γ l ab a0 a1 a2 a3 a4 a5 a6 a7 a ((F_thoughtHere f n (av f n rs) a).1) ((F_thoughtHere f n (F_passUF f n ((F_thoughtHere f n (av f n rs) a).2)) a).1) hA (th_in hn hA)) ⟨by decide, by decide⟩ ⟨by decide, by decide⟩ hl.1 rfl 3 rfl rfl rfl (Nat.le_of_ble_eq_true rfl) [3, 4, 5, 6, 7, 8, 9, 10] [0, 1, 2] rfl rfl rfl rfl (by decide) dX5_readFollows_34 (fun r w1 H locs hq hw => ?_)
    obtain ⟨rfl, rfl⟩ := hq
    have hw : kW γ A ([(rr, .inr (5, [.ref h, .ref rl, .ref ab, .int mn, .int (((F_thoughtHere f n (F_passUF f n ((F_thoughtHere f n (av f n rs) a).2)) a).2).1)]))] ++ (tWd γ h hg n f (((F_thoughtHere f n (F_passUF f n ((F_thoughtHere f n (av f n rs) a).2)) a).2).2.1) (((F_thoughtHere f n (F_passUF f n ((F_thoughtHere f n (av f n rs) a).2)) a).2).2.2.1) (((F_thoughtHere f n (F_passUF f n ((F_thoughtHere f n (av f n rs) a).2)) a).2).2.2.2)) ++ (aWd γ ab a0 a1 a2 a3 a4 a5 a6 a7 a)) s H locs := hw
    refine W.eq (g2 := F0 m 37 ls [.int (F_isTold a ((F_thoughtHere f n (av f n rs) a).1) ((F_thoughtHere f n (F_passUF f n ((F_thoughtHere f n (av f n rs) a).2)) a).1))]) rfl ?_
    refine lv_if_eq (tgt := 45) hx hb dX5_readFollows_37 (by decide) (fun c_132 => ?_) (fun c_132 => ?_)
    · refine lv_aload_n hx hb dX5_readFollows_45 rfl (lv_at hl 2 rfl) ?_
      refine k_V (wr := (aWd γ ab a0 a1 a2 a3 a4 a5 a6 a7 a)) 0 gw_513 gw_515 gp_7 gw_14 gw_516 hd_X5_passUnlessFault hC hw (c_passUF γ l rr rl ab mn h hg n ((F_thoughtHere f n (F_passUF f n ((F_thoughtHere f n (av f n rs) a).2)) a).2) f hn hok) ⟨by decide, by decide⟩ ⟨by decide, by decide⟩ hl.1 rfl 0 rfl rfl rfl (Nat.le_of_ble_eq_true rfl) [0, 1, 2] [3, 4, 5, 6, 7, 8, 9, 10] rfl rfl rfl rfl (by decide) dX5_readFollows_46 (fun r w1 H locs hq hw => ?_)
      obtain ⟨rfl, rfl⟩ := hq
      have hw : kW γ A ((aWd γ ab a0 a1 a2 a3 a4 a5 a6 a7 a) ++ [(rr, .inr (5, [.ref h, .ref rl, .ref ab, .int mn, .int ((F_passUF f n ((F_thoughtHere f n (F_passUF f n ((F_thoughtHere f n (av f n rs) a).2)) a).2)).1)]))] ++ (tWd γ h hg n f ((F_passUF f n ((F_thoughtHere f n (F_passUF f n ((F_thoughtHere f n (av f n rs) a).2)) a).2)).2.1) ((F_passUF f n ((F_thoughtHere f n (F_passUF f n ((F_thoughtHere f n (av f n rs) a).2)) a).2)).2.2.1) ((F_passUF f n ((F_thoughtHere f n (F_passUF f n ((F_thoughtHere f n (av f n rs) a).2)) a).2)).2.2.2))) s H locs := hw
      refine W.eq (g2 := F0 m 49 ls []) rfl ?_
      refine lv_aload_n hx hb dX5_readFollows_49 rfl (lv_at hl 2 rfl) ?_
      refine lv_bipush (v := 59) hx hb dX5_readFollows_50 (by decide) ?_
      refine k_V (wr := (aWd γ ab a0 a1 a2 a3 a4 a5 a6 a7 a)) 1 gw_529 gw_531 gp_10 gw_14 gw_532 hd_X5_passSign hC hw (c_passSign γ l rr rl ab mn h hg n (F_passUF f n ((F_thoughtHere f n (F_passUF f n ((F_thoughtHere f n (av f n rs) a).2)) a).2)) f 59 hn hok) ⟨by decide, by decide⟩ ⟨by decide, by decide⟩ hl.1 rfl 8 rfl rfl rfl (Nat.le_of_ble_eq_true rfl) [8, 9, 10] [0, 1, 2, 3, 4, 5, 6, 7] rfl rfl rfl rfl (by decide) dX5_readFollows_52 (fun r w1 H locs hq hw => ?_)
      obtain ⟨rfl, rfl⟩ := hq
      have hw : kW γ A ((aWd γ ab a0 a1 a2 a3 a4 a5 a6 a7 a) ++ [(rr, .inr (5, [.ref h, .ref rl, .ref ab, .int mn, .int ((F_passSign f n (F_passUF f n ((F_thoughtHere f n (F_passUF f n ((F_thoughtHere f n (av f n rs) a).2)) a).2)) 59).1)]))] ++ (tWd γ h hg n f ((F_passSign f n (F_passUF f n ((F_thoughtHere f n (F_passUF f n ((F_thoughtHere f n (av f n rs) a).2)) a).2)) 59).2.1) ((F_passSign f n (F_passUF f n ((F_thoughtHere f n (F_passUF f n ((F_thoughtHere f n (av f n rs) a).2)) a).2)) 59).2.2.1) ((F_passSign f n (F_passUF f n ((F_thoughtHere f n (F_passUF f n ((F_thoughtHere f n (av f n rs) a).2)) a).2)) 59).2.2.2))) s H locs := hw
      refine W.eq (g2 := F0 m 55 ls []) rfl ?_
      refine lv_aload_n hx hb dX5_readFollows_55 rfl (lv_at hl 2 rfl) ?_
      refine fg_RX5_91 hC hw 8 rfl rfl dX5_readFollows_56 ?_
      refine lv_if_ne (tgt := 71) hx hb dX5_readFollows_59 (by decide) (fun c_133 => ?_) (fun c_133 => ?_)
      · have hE : (F_readFollows f n rs a) = ((F_passSign f n (F_passUF f n ((F_thoughtHere f n (F_passUF f n ((F_thoughtHere f n (av f n rs) a).2)) a).2)) 59), a) := by unfold F_readFollows; rw [if_pos c_130, if_pos c_132, if_neg c_133]
        have hw : kW γ A ((aWd γ ab a0 a1 a2 a3 a4 a5 a6 a7 ((F_readFollows f n rs a).2)) ++ [(rr, .inr (5, [.ref h, .ref rl, .ref ab, .int mn, .int (((F_readFollows f n rs a).1).1)]))] ++ (tWd γ h hg n f (((F_readFollows f n rs a).1).2.1) (((F_readFollows f n rs a).1).2.2.1) (((F_readFollows f n rs a).1).2.2.2))) s H locs := by first | (rw [hE]; exact hw) | exact hw
        exact k_vret hC hr hlocks hw [8, 9, 10, 0, 1, 2, 3, 4, 5, 6, 7] rfl rfl ⟨rfl, rfl⟩ (by decide) (by decide) dX5_readFollows_71
      · refine lv_aload_n hx hb dX5_readFollows_62 rfl (lv_at hl 2 rfl) ?_
        refine fg_RX5_19 hC hw 8 rfl rfl dX5_readFollows_63 ?_
        refine lv_iload_n hx hb dX5_readFollows_66 rfl (lv_at hl 1 rfl) ?_
        refine lv_iload_n hx hb dX5_readFollows_67 rfl (lv_at hl 0 rfl) ?_
        refine k_V (wr := ([(rr, .inr (5, [.ref h, .ref rl, .ref ab, .int mn, .int ((F_passSign f n (F_passUF f n ((F_thoughtHere f n (F_passUF f n ((F_thoughtHere f n (av f n rs) a).2)) a).2)) 59).1)]))] ++ (tWd γ h hg n f ((F_passSign f n (F_passUF f n ((F_thoughtHere f n (F_passUF f n ((F_thoughtHere f n (av f n rs) a).2)) a).2)) 59).2.1) ((F_passSign f n (F_passUF f n ((F_thoughtHere f n (F_passUF f n ((F_thoughtHere f n (av f n rs) a).2)) a).2)) 59).2.2.1) ((F_passSign f n (F_passUF f n ((F_thoughtHere f n (F_passUF f n ((F_thoughtHere f n (av f n rs) a).2)) a).2)) 59).2.2.2)))) 2 gw_558 gw_559 gw_560 gw_13 gw_561 hd_X0_addFollower hC hw (c_addFollower γ l ab a0 a1 a2 a3 a4 a5 a6 a7 a ((F_thoughtHere f n (av f n rs) a).1) ((F_thoughtHere f n (F_passUF f n ((F_thoughtHere f n (av f n rs) a).2)) a).1) hA (th_in hn hA)) ⟨by decide, by decide⟩ ⟨by decide, by decide⟩ hl.1 rfl 0 rfl rfl rfl (Nat.le_of_ble_eq_true rfl) [0, 1, 2, 3, 4, 5, 6, 7] [8, 9, 10] rfl rfl rfl rfl (by decide) dX5_readFollows_68 (fun r w1 H locs hq hw => ?_)
        obtain ⟨rfl, rfl⟩ := hq
        have hw : kW γ A ([(rr, .inr (5, [.ref h, .ref rl, .ref ab, .int mn, .int ((F_passSign f n (F_passUF f n ((F_thoughtHere f n (F_passUF f n ((F_thoughtHere f n (av f n rs) a).2)) a).2)) 59).1)]))] ++ (tWd γ h hg n f ((F_passSign f n (F_passUF f n ((F_thoughtHere f n (F_passUF f n ((F_thoughtHere f n (av f n rs) a).2)) a).2)) 59).2.1) ((F_passSign f n (F_passUF f n ((F_thoughtHere f n (F_passUF f n ((F_thoughtHere f n (av f n rs) a).2)) a).2)) 59).2.2.1) ((F_passSign f n (F_passUF f n ((F_thoughtHere f n (F_passUF f n ((F_thoughtHere f n (av f n rs) a).2)) a).2)) 59).2.2.2)) ++ (aWd γ ab a0 a1 a2 a3 a4 a5 a6 a7 (F_addFollower a ((F_thoughtHere f n (av f n rs) a).1) ((F_thoughtHere f n (F_passUF f n ((F_thoughtHere f n (av f n rs) a).2)) a).1)))) s H locs := hw
        refine W.eq (g2 := F0 m 71 ls []) rfl ?_
        have hE : (F_readFollows f n rs a) = ((F_passSign f n (F_passUF f n ((F_thoughtHere f n (F_passUF f n ((F_thoughtHere f n (av f n rs) a).2)) a).2)) 59), (F_addFollower a ((F_thoughtHere f n (av f n rs) a).1) ((F_thoughtHere f n (F_passUF f n ((F_thoughtHere f n (av f n rs) a).2)) a).1))) := by unfold F_readFollows; rw [if_pos c_130, if_pos c_132, if_pos c_133]
        have hw : kW γ A ([(rr, .inr (5, [.ref h, .ref rl, .ref ab, .int mn, .int (((F_readFollows f n rs a).1).1)]))] ++ (tWd γ h hg n f (((F_readFollows f n rs a).1).2.1) (((F_readFollows f n rs a).1).2.2.1) (((F_readFollows f n rs a).1).2.2.2)) ++ (aWd γ ab a0 a1 a2 a3 a4 a5 a6 a7 ((F_readFollows f n rs a).2))) s H locs := by first | (rw [hE]; exact hw) | exact hw
        exact k_vret hC hr hlocks hw [0, 1, 2, 3, 4, 5, 6, 7, 8, 9, 10] rfl rfl ⟨rfl, rfl⟩ (by decide) (by decide) dX5_readFollows_71
    · refine lv_aload_n hx hb dX5_readFollows_40 rfl (lv_at hl 2 rfl) ?_
      refine lv_iconst (v := 3) hx hb dX5_readFollows_41 (by decide) ?_
      refine k_V (wr := (aWd γ ab a0 a1 a2 a3 a4 a5 a6 a7 a)) 1 gw_493 gw_495 gp_5 gw_14 gw_496 hd_X5_fail hC hw (c_fail γ l rr rl ab mn h hg n ((F_thoughtHere f n (F_passUF f n ((F_thoughtHere f n (av f n rs) a).2)) a).2) f 3 hn hok) ⟨by decide, by decide⟩ ⟨by decide, by decide⟩ hl.1 rfl 0 rfl rfl rfl (Nat.le_of_ble_eq_true rfl) [0, 1, 2] [3, 4, 5, 6, 7, 8, 9, 10] rfl rfl rfl rfl (by decide) dX5_readFollows_42 (fun r w1 H locs hq hw => ?_)
      obtain ⟨rfl, rfl⟩ := hq
      have hw : kW γ A ((aWd γ ab a0 a1 a2 a3 a4 a5 a6 a7 a) ++ [(rr, .inr (5, [.ref h, .ref rl, .ref ab, .int mn, .int ((F_fail f n ((F_thoughtHere f n (F_passUF f n ((F_thoughtHere f n (av f n rs) a).2)) a).2) 3).1)]))] ++ (tWd γ h hg n f ((F_fail f n ((F_thoughtHere f n (F_passUF f n ((F_thoughtHere f n (av f n rs) a).2)) a).2) 3).2.1) ((F_fail f n ((F_thoughtHere f n (F_passUF f n ((F_thoughtHere f n (av f n rs) a).2)) a).2) 3).2.2.1) ((F_fail f n ((F_thoughtHere f n (F_passUF f n ((F_thoughtHere f n (av f n rs) a).2)) a).2) 3).2.2.2))) s H locs := hw
      refine W.eq (g2 := F0 m 45 ls []) rfl ?_
      refine lv_aload_n hx hb dX5_readFollows_45 rfl (lv_at hl 2 rfl) ?_
      refine k_V (wr := (aWd γ ab a0 a1 a2 a3 a4 a5 a6 a7 a)) 0 gw_513 gw_515 gp_7 gw_14 gw_516 hd_X5_passUnlessFault hC hw (c_passUF γ l rr rl ab mn h hg n (F_fail f n ((F_thoughtHere f n (F_passUF f n ((F_thoughtHere f n (av f n rs) a).2)) a).2) 3) f hn hok) ⟨by decide, by decide⟩ ⟨by decide, by decide⟩ hl.1 rfl 8 rfl rfl rfl (Nat.le_of_ble_eq_true rfl) [8, 9, 10] [0, 1, 2, 3, 4, 5, 6, 7] rfl rfl rfl rfl (by decide) dX5_readFollows_46 (fun r w1 H locs hq hw => ?_)
      obtain ⟨rfl, rfl⟩ := hq
      have hw : kW γ A ((aWd γ ab a0 a1 a2 a3 a4 a5 a6 a7 a) ++ [(rr, .inr (5, [.ref h, .ref rl, .ref ab, .int mn, .int ((F_passUF f n (F_fail f n ((F_thoughtHere f n (F_passUF f n ((F_thoughtHere f n (av f n rs) a).2)) a).2) 3)).1)]))] ++ (tWd γ h hg n f ((F_passUF f n (F_fail f n ((F_thoughtHere f n (F_passUF f n ((F_thoughtHere f n (av f n rs) a).2)) a).2) 3)).2.1) ((F_passUF f n (F_fail f n ((F_thoughtHere f n (F_passUF f n ((F_thoughtHere f n (av f n rs) a).2)) a).2) 3)).2.2.1) ((F_passUF f n (F_fail f n ((F_thoughtHere f n (F_passUF f n ((F_thoughtHere f n (av f n rs) a).2)) a).2) 3)).2.2.2))) s H locs := hw
      refine W.eq (g2 := F0 m 49 ls []) rfl ?_
      refine lv_aload_n hx hb dX5_readFollows_49 rfl (lv_at hl 2 rfl) ?_
      refine lv_bipush (v := 59) hx hb dX5_readFollows_50 (by decide) ?_
      refine k_V (wr := (aWd γ ab a0 a1 a2 a3 a4 a5 a6 a7 a)) 1 gw_529 gw_531 gp_10 gw_14 gw_532 hd_X5_passSign hC hw (c_passSign γ l rr rl ab mn h hg n (F_passUF f n (F_fail f n ((F_thoughtHere f n (F_passUF f n ((F_thoughtHere f n (av f n rs) a).2)) a).2) 3)) f 59 hn hok) ⟨by decide, by decide⟩ ⟨by decide, by decide⟩ hl.1 rfl 8 rfl rfl rfl (Nat.le_of_ble_eq_true rfl) [8, 9, 10] [0, 1, 2, 3, 4, 5, 6, 7] rfl rfl rfl rfl (by decide) dX5_readFollows_52 (fun r w1 H locs hq hw => ?_)
      obtain ⟨rfl, rfl⟩ := hq
      have hw : kW γ A ((aWd γ ab a0 a1 a2 a3 a4 a5 a6 a7 a) ++ [(rr, .inr (5, [.ref h, .ref rl, .ref ab, .int mn, .int ((F_passSign f n (F_passUF f n (F_fail f n ((F_thoughtHere f n (F_passUF f n ((F_thoughtHere f n (av f n rs) a).2)) a).2) 3)) 59).1)]))] ++ (tWd γ h hg n f ((F_passSign f n (F_passUF f n (F_fail f n ((F_thoughtHere f n (F_passUF f n ((F_thoughtHere f n (av f n rs) a).2)) a).2) 3)) 59).2.1) ((F_passSign f n (F_passUF f n (F_fail f n ((F_thoughtHere f n (F_passUF f n ((F_thoughtHere f n (av f n rs) a).2)) a).2) 3)) 59).2.2.1) ((F_passSign f n (F_passUF f n (F_fail f n ((F_thoughtHere f n (F_passUF f n ((F_thoughtHere f n (av f n rs) a).2)) a).2) 3)) 59).2.2.2))) s H locs := hw
      refine W.eq (g2 := F0 m 55 ls []) rfl ?_
      refine lv_aload_n hx hb dX5_readFollows_55 rfl (lv_at hl 2 rfl) ?_
      refine fg_RX5_91 hC hw 8 rfl rfl dX5_readFollows_56 ?_
      refine lv_if_ne (tgt := 71) hx hb dX5_readFollows_59 (by decide) (fun c_134 => ?_) (fun c_134 => ?_)
      · have hE : (F_readFollows f n rs a) = ((F_passSign f n (F_passUF f n (F_fail f n ((F_thoughtHere f n (F_passUF f n ((F_thoughtHere f n (av f n rs) a).2)) a).2) 3)) 59), a) := by unfold F_readFollows; rw [if_pos c_130, if_neg c_132, if_neg c_134]
        have hw : kW γ A ((aWd γ ab a0 a1 a2 a3 a4 a5 a6 a7 ((F_readFollows f n rs a).2)) ++ [(rr, .inr (5, [.ref h, .ref rl, .ref ab, .int mn, .int (((F_readFollows f n rs a).1).1)]))] ++ (tWd γ h hg n f (((F_readFollows f n rs a).1).2.1) (((F_readFollows f n rs a).1).2.2.1) (((F_readFollows f n rs a).1).2.2.2))) s H locs := by first | (rw [hE]; exact hw) | exact hw
        exact k_vret hC hr hlocks hw [8, 9, 10, 0, 1, 2, 3, 4, 5, 6, 7] rfl rfl ⟨rfl, rfl⟩ (by decide) (by decide) dX5_readFollows_71
      · refine lv_aload_n hx hb dX5_readFollows_62 rfl (lv_at hl 2 rfl) ?_
        refine fg_RX5_19 hC hw 8 rfl rfl dX5_readFollows_63 ?_
        refine lv_iload_n hx hb dX5_readFollows_66 rfl (lv_at hl 1 rfl) ?_
        refine lv_iload_n hx hb dX5_readFollows_67 rfl (lv_at hl 0 rfl) ?_
        refine k_V (wr := ([(rr, .inr (5, [.ref h, .ref rl, .ref ab, .int mn, .int ((F_passSign f n (F_passUF f n (F_fail f n ((F_thoughtHere f n (F_passUF f n ((F_thoughtHere f n (av f n rs) a).2)) a).2) 3)) 59).1)]))] ++ (tWd γ h hg n f ((F_passSign f n (F_passUF f n (F_fail f n ((F_thoughtHere f n (F_passUF f n ((F_thoughtHere f n (av f n rs) a).2)) a).2) 3)) 59).2.1) ((F_passSign f n (F_passUF f n (F_fail f n ((F_thoughtHere f n (F_passUF f n ((F_thoughtHere f n (av f n rs) a).2)) a).2) 3)) 59).2.2.1) ((F_passSign f n (F_passUF f n (F_fail f n ((F_thoughtHere f n (F_passUF f n ((F_thoughtHere f n (av f n rs) a).2)) a).2) 3)) 59).2.2.2)))) 2 gw_558 gw_559 gw_560 gw_13 gw_561 hd_X0_addFollower hC hw (c_addFollower γ l ab a0 a1 a2 a3 a4 a5 a6 a7 a ((F_thoughtHere f n (av f n rs) a).1) ((F_thoughtHere f n (F_passUF f n ((F_thoughtHere f n (av f n rs) a).2)) a).1) hA (th_in hn hA)) ⟨by decide, by decide⟩ ⟨by decide, by decide⟩ hl.1 rfl 0 rfl rfl rfl (Nat.le_of_ble_eq_true rfl) [0, 1, 2, 3, 4, 5, 6, 7] [8, 9, 10] rfl rfl rfl rfl (by decide) dX5_readFollows_68 (fun r w1 H locs hq hw => ?_)
        obtain ⟨rfl, rfl⟩ := hq
        have hw : kW γ A ([(rr, .inr (5, [.ref h, .ref rl, .ref ab, .int mn, .int ((F_passSign f n (F_passUF f n (F_fail f n ((F_thoughtHere f n (F_passUF f n ((F_thoughtHere f n (av f n rs) a).2)) a).2) 3)) 59).1)]))] ++ (tWd γ h hg n f ((F_passSign f n (F_passUF f n (F_fail f n ((F_thoughtHere f n (F_passUF f n ((F_thoughtHere f n (av f n rs) a).2)) a).2) 3)) 59).2.1) ((F_passSign f n (F_passUF f n (F_fail f n ((F_thoughtHere f n (F_passUF f n ((F_thoughtHere f n (av f n rs) a).2)) a).2) 3)) 59).2.2.1) ((F_passSign f n (F_passUF f n (F_fail f n ((F_thoughtHere f n (F_passUF f n ((F_thoughtHere f n (av f n rs) a).2)) a).2) 3)) 59).2.2.2)) ++ (aWd γ ab a0 a1 a2 a3 a4 a5 a6 a7 (F_addFollower a ((F_thoughtHere f n (av f n rs) a).1) ((F_thoughtHere f n (F_passUF f n ((F_thoughtHere f n (av f n rs) a).2)) a).1)))) s H locs := hw
        refine W.eq (g2 := F0 m 71 ls []) rfl ?_
        have hE : (F_readFollows f n rs a) = ((F_passSign f n (F_passUF f n (F_fail f n ((F_thoughtHere f n (F_passUF f n ((F_thoughtHere f n (av f n rs) a).2)) a).2) 3)) 59), (F_addFollower a ((F_thoughtHere f n (av f n rs) a).1) ((F_thoughtHere f n (F_passUF f n ((F_thoughtHere f n (av f n rs) a).2)) a).1))) := by unfold F_readFollows; rw [if_pos c_130, if_neg c_132, if_pos c_134]
        have hw : kW γ A ([(rr, .inr (5, [.ref h, .ref rl, .ref ab, .int mn, .int (((F_readFollows f n rs a).1).1)]))] ++ (tWd γ h hg n f (((F_readFollows f n rs a).1).2.1) (((F_readFollows f n rs a).1).2.2.1) (((F_readFollows f n rs a).1).2.2.2)) ++ (aWd γ ab a0 a1 a2 a3 a4 a5 a6 a7 ((F_readFollows f n rs a).2))) s H locs := by first | (rw [hE]; exact hw) | exact hw
        exact k_vret hC hr hlocks hw [0, 1, 2, 3, 4, 5, 6, 7, 8, 9, 10] rfl rfl ⟨rfl, rfl⟩ (by decide) (by decide) dX5_readFollows_71


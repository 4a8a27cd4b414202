/-! the model's rows shifted, exactly -/
def shP (f : Nat → Int32) (n i : Nat) : Nat → Int32 := fun k => if k < i then f (n + k) else f k
def shQ (f : Nat → Int64) (n i : Nat) : Nat → Int64 := fun k => if k < i then f (n + k) else f k
theorem shP_step {f : Nat → Int32} {n i : Nat} (hi : i < n) (hn : n < 2 ^ 31) : upd (shP f n i) (nI i : Int32).toNatClampNeg (shP f n i (n + i)) = shP f n (i + 1) := by
  rw [nI_clamp (by omega)]
  funext k
  unfold upd shP
  by_cases h : k = i
  · subst h
    rw [if_pos rfl, if_neg (by omega), if_pos (by omega)]
  · rw [if_neg h]
    by_cases h2 : k < i
    · rw [if_pos h2, if_pos (by omega)]
    · rw [if_neg h2, if_neg (by omega)]
theorem shQ_step {f : Nat → Int64} {n i : Nat} (hi : i < n) (hn : n < 2 ^ 31) : vp_updL (shQ f n i) (nI i : Int32).toNatClampNeg (shQ f n i (n + i)) = shQ f n (i + 1) := by
  rw [nI_clamp (by omega)]
  funext k
  unfold vp_updL shQ
  by_cases h : k = i
  · subst h
    rw [if_pos rfl, if_neg (by omega), if_pos (by omega)]
  · rw [if_neg h]
    by_cases h2 : k < i
    · rw [if_pos h2, if_pos (by omega)]
    · rw [if_neg h2, if_neg (by omega)]
theorem shP_0 {f : Nat → Int32} {n : Nat} : f = shP f n 0 := funext fun k => (if_neg (Nat.not_lt_zero k)).symm
theorem shQ_0 {f : Nat → Int64} {n : Nat} : f = shQ f n 0 := funext fun k => (if_neg (Nat.not_lt_zero k)).symm
theorem dX12_shifts_0 : decode cX12_shifts 0 = .ok (.iconst 0, 1) := by decide +kernel
theorem dX12_shifts_1 : decode cX12_shifts 1 = .ok (.istore_n 2, 1) := by decide +kernel
theorem dX12_shifts_2 : decode cX12_shifts 2 = .ok (.iload_n 2, 1) := by decide +kernel
theorem dX12_shifts_3 : decode cX12_shifts 3 = .ok (.iload_n 1, 1) := by decide +kernel
theorem dX12_shifts_4 : decode cX12_shifts 4 = .ok (.if_icmp .ge 17, 3) := by decide +kernel
theorem dX12_shifts_7 : decode cX12_shifts 7 = .ok (.aload_n 0, 1) := by decide +kernel
theorem dX12_shifts_8 : decode cX12_shifts 8 = .ok (.iload_n 2, 1) := by decide +kernel
theorem dX12_shifts_9 : decode cX12_shifts 9 = .ok (.aload_n 0, 1) := by decide +kernel
theorem dX12_shifts_10 : decode cX12_shifts 10 = .ok (.iload_n 1, 1) := by decide +kernel
theorem dX12_shifts_11 : decode cX12_shifts 11 = .ok (.iload_n 2, 1) := by decide +kernel
theorem dX12_shifts_12 : decode cX12_shifts 12 = .ok (.iadd, 1) := by decide +kernel
theorem dX12_shifts_13 : decode cX12_shifts 13 = .ok (.iaload, 1) := by decide +kernel
theorem dX12_shifts_14 : decode cX12_shifts 14 = .ok (.iastore, 1) := by decide +kernel
theorem dX12_shifts_15 : decode cX12_shifts 15 = .ok (.iinc 2 1, 3) := by decide +kernel
theorem dX12_shifts_18 : decode cX12_shifts 18 = .ok (.goto (-16), 3) := by decide +kernel
theorem dX12_shifts_21 : decode cX12_shifts 21 = .ok (.return_, 1) := by decide +kernel
theorem dX12_shiftsNames_0 : decode cX12_shiftsNames 0 = .ok (.iconst 0, 1) := by decide +kernel
theorem dX12_shiftsNames_1 : decode cX12_shiftsNames 1 = .ok (.istore_n 2, 1) := by decide +kernel
theorem dX12_shiftsNames_2 : decode cX12_shiftsNames 2 = .ok (.iload_n 2, 1) := by decide +kernel
theorem dX12_shiftsNames_3 : decode cX12_shiftsNames 3 = .ok (.iload_n 1, 1) := by decide +kernel
theorem dX12_shiftsNames_4 : decode cX12_shiftsNames 4 = .ok (.if_icmp .ge 17, 3) := by decide +kernel
theorem dX12_shiftsNames_7 : decode cX12_shiftsNames 7 = .ok (.aload_n 0, 1) := by decide +kernel
theorem dX12_shiftsNames_8 : decode cX12_shiftsNames 8 = .ok (.iload_n 2, 1) := by decide +kernel
theorem dX12_shiftsNames_9 : decode cX12_shiftsNames 9 = .ok (.aload_n 0, 1) := by decide +kernel
theorem dX12_shiftsNames_10 : decode cX12_shiftsNames 10 = .ok (.iload_n 1, 1) := by decide +kernel
theorem dX12_shiftsNames_11 : decode cX12_shiftsNames 11 = .ok (.iload_n 2, 1) := by decide +kernel
theorem dX12_shiftsNames_12 : decode cX12_shiftsNames 12 = .ok (.iadd, 1) := by decide +kernel
theorem dX12_shiftsNames_13 : decode cX12_shiftsNames 13 = .ok (.laload, 1) := by decide +kernel
theorem dX12_shiftsNames_14 : decode cX12_shiftsNames 14 = .ok (.lastore, 1) := by decide +kernel
theorem dX12_shiftsNames_15 : decode cX12_shiftsNames 15 = .ok (.iinc 2 1, 3) := by decide +kernel
theorem dX12_shiftsNames_18 : decode cX12_shiftsNames 18 = .ok (.goto (-16), 3) := by decide +kernel
theorem dX12_shiftsNames_21 : decode cX12_shiftsNames 21 = .ok (.return_, 1) := by decide +kernel
theorem dX12_lays_0 : decode cX12_lays 0 = .ok (.aload_n 0, 1) := by decide +kernel
theorem dX12_lays_1 : decode cX12_lays 1 = .ok (.getfield 13, 3) := by decide +kernel
theorem dX12_lays_4 : decode cX12_lays 4 = .ok (.iconst 5, 1) := by decide +kernel
theorem dX12_lays_5 : decode cX12_lays 5 = .ok (.invokestatic 323, 3) := by decide +kernel
theorem dX12_lays_8 : decode cX12_lays 8 = .ok (.aload_n 0, 1) := by decide +kernel
theorem dX12_lays_9 : decode cX12_lays 9 = .ok (.getfield 16, 3) := by decide +kernel
theorem dX12_lays_12 : decode cX12_lays 12 = .ok (.bipush 8, 2) := by decide +kernel
theorem dX12_lays_14 : decode cX12_lays 14 = .ok (.invokestatic 327, 3) := by decide +kernel
theorem dX12_lays_17 : decode cX12_lays 17 = .ok (.aload_n 0, 1) := by decide +kernel
theorem dX12_lays_18 : decode cX12_lays 18 = .ok (.getfield 20, 3) := by decide +kernel
theorem dX12_lays_21 : decode cX12_lays 21 = .ok (.iconst 5, 1) := by decide +kernel
theorem dX12_lays_22 : decode cX12_lays 22 = .ok (.invokestatic 327, 3) := by decide +kernel
theorem dX12_lays_25 : decode cX12_lays 25 = .ok (.aload_n 0, 1) := by decide +kernel
theorem dX12_lays_26 : decode cX12_lays 26 = .ok (.getfield 23, 3) := by decide +kernel
theorem dX12_lays_29 : decode cX12_lays 29 = .ok (.bipush 8, 2) := by decide +kernel
theorem dX12_lays_31 : decode cX12_lays 31 = .ok (.invokestatic 323, 3) := by decide +kernel
theorem dX12_lays_34 : decode cX12_lays 34 = .ok (.aload_n 0, 1) := by decide +kernel
theorem dX12_lays_35 : decode cX12_lays 35 = .ok (.getfield 26, 3) := by decide +kernel
theorem dX12_lays_38 : decode cX12_lays 38 = .ok (.bipush 8, 2) := by decide +kernel
theorem dX12_lays_40 : decode cX12_lays 40 = .ok (.invokestatic 323, 3) := by decide +kernel
theorem dX12_lays_43 : decode cX12_lays 43 = .ok (.aload_n 0, 1) := by decide +kernel
theorem dX12_lays_44 : decode cX12_lays 44 = .ok (.getfield 29, 3) := by decide +kernel
theorem dX12_lays_47 : decode cX12_lays 47 = .ok (.bipush 8, 2) := by decide +kernel
theorem dX12_lays_49 : decode cX12_lays 49 = .ok (.invokestatic 323, 3) := by decide +kernel
theorem dX12_lays_52 : decode cX12_lays 52 = .ok (.aload_n 0, 1) := by decide +kernel
theorem dX12_lays_53 : decode cX12_lays 53 = .ok (.getfield 32, 3) := by decide +kernel
theorem dX12_lays_56 : decode cX12_lays 56 = .ok (.iconst 5, 1) := by decide +kernel
theorem dX12_lays_57 : decode cX12_lays 57 = .ok (.invokestatic 323, 3) := by decide +kernel
theorem dX12_lays_60 : decode cX12_lays 60 = .ok (.aload_n 0, 1) := by decide +kernel
theorem dX12_lays_61 : decode cX12_lays 61 = .ok (.getfield 41, 3) := by decide +kernel
theorem dX12_lays_64 : decode cX12_lays 64 = .ok (.sipush 1000, 3) := by decide +kernel
theorem dX12_lays_67 : decode cX12_lays 67 = .ok (.invokestatic 323, 3) := by decide +kernel
theorem dX12_lays_70 : decode cX12_lays 70 = .ok (.iconst 0, 1) := by decide +kernel
theorem dX12_lays_71 : decode cX12_lays 71 = .ok (.istore_n 1, 1) := by decide +kernel
theorem dX12_lays_72 : decode cX12_lays 72 = .ok (.iload_n 1, 1) := by decide +kernel
theorem dX12_lays_73 : decode cX12_lays 73 = .ok (.iconst 2, 1) := by decide +kernel
theorem dX12_lays_74 : decode cX12_lays 74 = .ok (.if_icmp .ge 45, 3) := by decide +kernel
theorem dX12_lays_77 : decode cX12_lays 77 = .ok (.aload_n 0, 1) := by decide +kernel
theorem dX12_lays_78 : decode cX12_lays 78 = .ok (.getfield 35, 3) := by decide +kernel
theorem dX12_lays_81 : decode cX12_lays 81 = .ok (.iload_n 1, 1) := by decide +kernel
theorem dX12_lays_82 : decode cX12_lays 82 = .ok (.aload_n 0, 1) := by decide +kernel
theorem dX12_lays_83 : decode cX12_lays 83 = .ok (.getfield 35, 3) := by decide +kernel
theorem dX12_lays_86 : decode cX12_lays 86 = .ok (.iconst 2, 1) := by decide +kernel
theorem dX12_lays_87 : decode cX12_lays 87 = .ok (.iload_n 1, 1) := by decide +kernel
theorem dX12_lays_88 : decode cX12_lays 88 = .ok (.iadd, 1) := by decide +kernel
theorem dX12_lays_89 : decode cX12_lays 89 = .ok (.iaload, 1) := by decide +kernel
theorem dX12_lays_90 : decode cX12_lays 90 = .ok (.sipush 1000, 3) := by decide +kernel
theorem dX12_lays_93 : decode cX12_lays 93 = .ok (.isub, 1) := by decide +kernel
theorem dX12_lays_94 : decode cX12_lays 94 = .ok (.iastore, 1) := by decide +kernel
theorem dX12_lays_95 : decode cX12_lays 95 = .ok (.aload_n 0, 1) := by decide +kernel
theorem dX12_lays_96 : decode cX12_lays 96 = .ok (.getfield 38, 3) := by decide +kernel
theorem dX12_lays_99 : decode cX12_lays 99 = .ok (.iload_n 1, 1) := by decide +kernel
theorem dX12_lays_100 : decode cX12_lays 100 = .ok (.aload_n 0, 1) := by decide +kernel
theorem dX12_lays_101 : decode cX12_lays 101 = .ok (.getfield 38, 3) := by decide +kernel
theorem dX12_lays_104 : decode cX12_lays 104 = .ok (.iconst 2, 1) := by decide +kernel
theorem dX12_lays_105 : decode cX12_lays 105 = .ok (.iload_n 1, 1) := by decide +kernel
theorem dX12_lays_106 : decode cX12_lays 106 = .ok (.iadd, 1) := by decide +kernel
theorem dX12_lays_107 : decode cX12_lays 107 = .ok (.iaload, 1) := by decide +kernel
theorem dX12_lays_108 : decode cX12_lays 108 = .ok (.sipush 1000, 3) := by decide +kernel
theorem dX12_lays_111 : decode cX12_lays 111 = .ok (.isub, 1) := by decide +kernel
theorem dX12_lays_112 : decode cX12_lays 112 = .ok (.iastore, 1) := by decide +kernel
theorem dX12_lays_113 : decode cX12_lays 113 = .ok (.iinc 1 1, 3) := by decide +kernel
theorem dX12_lays_116 : decode cX12_lays 116 = .ok (.goto (-44), 3) := by decide +kernel
theorem dX12_lays_119 : decode cX12_lays 119 = .ok (.return_, 1) := by decide +kernel
set_option maxHeartbeats 4000000 in
set_option maxRecDepth 100000 in
theorem lp_shP {γ : kΓ} {l : Launch} {p9 : Program} {e : Env} {s : State} {m : MethodId} {below : List Frame} {meth : Method} {c : Code} {A : Nat → Prop} (a : Nat) (N : Nat) (f : Nat → Int32) (n : Nat) (hN : n + n ≤ N) (hb9 : N < 2 ^ 31) (hC : kC γ p9 s m [.ref a, .int (nI n)].toArray c cX12_shifts 3 RX12 A) (hr : meth.sig.returnType = none) (hlocks : meth.locks = false) : ∀ (k : Nat) (i : Nat), n - i < k → (i ≤ n) → ∀ (H : Heap) (locs : List Loc), kW γ A [(a, .inl (γ.2.1 0, N, .inl ((shP f n i))))] s H locs → ∀ ls : Array Slot, lv_has ls 3 [(2, .int (nI i)), (0, .ref a), (1, .int (nI n))] → W p9 l e ({ frames := 0, cells := 0, slots := 0, locals := 0 } : Room) s m [.ref a, .int (nI n)].toArray below meth c H locs 0 0 (MQ below (kQ γ A (fun r w1 => r = none ∧ w1 = [(a, .inl (γ.2.1 0, N, .inl ((shP f n n))))])) [.ref a, .int (nI n)].toArray s 0 0 A) (F0 m 2 ls []) := by
  have hx := hC.1
  have hb := hC.2.1
  intro k
  induction k with
  | zero => intro i hk; exact absurd hk (Nat.not_lt_zero _)
  | succ k ih =>
    intro i hk hi H locs hw ls hl
    refine lv_iload_n hx hb dX12_shifts_2 rfl (lv_at hl 0 rfl) ?_
    refine lv_iload_n hx hb dX12_shifts_3 rfl (lv_at hl 2 rfl) ?_
    refine lv_icmp_ge (tgt := 21) hx hb dX12_shifts_4 (by decide) (fun c1 => ?_) (fun c1 => ?_)
    · have hi9 : i = n := by have h9 := (nI_leI (a := n) (b := i) (by omega) (by omega)).mp c1; omega
      rw [hi9] at hw
      exact k_vret hC hr hlocks hw [0] rfl rfl ⟨rfl, rfl⟩ (by decide) (by decide) dX12_shifts_21
    · have hi9 : i < n := by rcases Nat.lt_or_ge i n with h9 | h9; exact h9; exact absurd (nI_le h9 (by omega)) c1
      refine lv_aload_n hx hb dX12_shifts_7 rfl (lv_at hl 1 rfl) ?_
      refine lv_iload_n hx hb dX12_shifts_8 rfl (lv_at hl 0 rfl) ?_
      refine lv_aload_n hx hb dX12_shifts_9 rfl (lv_at hl 1 rfl) ?_
      refine lv_iload_n hx hb dX12_shifts_10 rfl (lv_at hl 2 rfl) ?_
      refine lv_iload_n hx hb dX12_shifts_11 rfl (lv_at hl 0 rfl) ?_
      refine lv_iadd hx hb dX12_shifts_12 ?_
      refine lv_topi (fun x_55 ex_55 => ?_)
      obtain rfl : x_55 = (nI (n + i)) := ex_55.trans (nI_add n i)
      refine k_iald hC hw 0 rfl (vp_in_nI (by omega) hb9) dX12_shifts_13 ?_
      refine lv_topi (fun x_56 ex_56 => ?_)
      obtain rfl : x_56 = ((shP f n i)) ((n + i)) := (show x_56 = ((shP f n i)) (nI ((n + i)) : Int32).toNatClampNeg from ex_56).trans (by rw [nI_clamp (by omega)])
      refine k_iast hC hw 0 rfl (vp_in_nI (by omega) hb9) dX12_shifts_14 (fun H locs hw => ?_)
      obtain ⟨f_57, ef_57⟩ : ∃ g, g = upd ((shP f n i)) ((nI i) : Int32).toNatClampNeg (((shP f n i)) ((n + i))) := ⟨_, rfl⟩
      have hw : kW γ A [(a, .inl (γ.2.1 0, N, .inl f_57))] s H locs := by rw [ef_57]; exact hw
      refine lv_iinc (v := (nI (i + 1))) (lv' := [(2, .int (nI (i + 1))), (0, .ref a), (1, .int (nI n))]) hx hb dX12_shifts_15 hl (k := 0) rfl (nI_1 i) (by decide) rfl (fun ls hl => ?_)
      refine lv_goto (tgt := 2) hx hb dX12_shifts_18 (by decide) ?_
      have hE : f_57 = shP f n (i + 1) := ef_57.trans (shP_step hi9 (by omega))
      rw [hE] at hw
      exact ih (i + 1) (by omega) (by omega) _ _ (kW.sub hw [0] rfl rfl) _ (lv_sub hl [0, 1, 2] rfl)

set_option maxHeartbeats 4000000 in
set_option maxRecDepth 100000 in
theorem c_shP (γ : kΓ) (l : Launch) (a : Nat) (N : Nat) (f : Nat → Int32) (n : Nat) (hN : n + n ≤ N) (hb9 : N < 2 ^ 31) : kM γ l yX12_shifts cX12_shifts 3 none ({ frames := 0, cells := 0, slots := 0, locals := 0 } : Room) [.ref a, .int (nI n)] [(a, .inl (γ.2.1 0, N, .inl f))] (fun r w1 => r = none ∧ w1 = [(a, .inl (γ.2.1 0, N, .inl ((shP f n n))))]) := by
  refine k_ofW (by decide) (Nat.le_of_ble_eq_true rfl) ?_
  intro p9 e s m below meth c A ls hC hr hlocks hname hw hl
  have hx := hC.1
  have hb := hC.2.1
  have hl : lv_has ls 3 [(0, .ref a), (1, .int (nI n))] := hl
  refine lv_iconst (v := 0) hx hb dX12_shifts_0 (by decide) ?_
  refine lv_istore_n (lv' := [(2, .int 0), (0, .ref a), (1, .int (nI n))]) hx hb dX12_shifts_1 rfl hl (by decide) rfl (fun ls hl => ?_)
  have hw : kW γ A [(a, .inl (γ.2.1 0, N, .inl ((shP f n 0))))] s s.heap [] := by rw [← shP_0]; exact hw
  exact lp_shP a N f n hN hb9 hC hr hlocks (n + 1) 0 (by omega) (Nat.zero_le n) _ _ hw _ (lv_sub hl [0, 1, 2] rfl)

set_option maxHeartbeats 4000000 in
set_option maxRecDepth 100000 in
theorem lp_shQ {γ : kΓ} {l : Launch} {p9 : Program} {e : Env} {s : State} {m : MethodId} {below : List Frame} {meth : Method} {c : Code} {A : Nat → Prop} (a : Nat) (N : Nat) (f : Nat → Int64) (n : Nat) (hN : n + n ≤ N) (hb9 : N < 2 ^ 31) (hC : kC γ p9 s m [.ref a, .int (nI n)].toArray c cX12_shiftsNames 3 RX12 A) (hr : meth.sig.returnType = none) (hlocks : meth.locks = false) : ∀ (k : Nat) (i : Nat), n - i < k → (i ≤ n) → ∀ (H : Heap) (locs : List Loc), kW γ A [(a, .inl (γ.2.1 1, N, .inr (.inl ((shQ f n i)))))] s H locs → ∀ ls : Array Slot, lv_has ls 3 [(2, .int (nI i)), (0, .ref a), (1, .int (nI n))] → W p9 l e ({ frames := 0, cells := 0, slots := 0, locals := 0 } : Room) s m [.ref a, .int (nI n)].toArray below meth c H locs 0 0 (MQ below (kQ γ A (fun r w1 => r = none ∧ w1 = [(a, .inl (γ.2.1 1, N, .inr (.inl ((shQ f n n)))))])) [.ref a, .int (nI n)].toArray s 0 0 A) (F0 m 2 ls []) := by
  have hx := hC.1
  have hb := hC.2.1
  intro k
  induction k with
  | zero => intro i hk; exact absurd hk (Nat.not_lt_zero _)
  | succ k ih =>
    intro i hk hi H locs hw ls hl
    refine lv_iload_n hx hb dX12_shiftsNames_2 rfl (lv_at hl 0 rfl) ?_
    refine lv_iload_n hx hb dX12_shiftsNames_3 rfl (lv_at hl 2 rfl) ?_
    refine lv_icmp_ge (tgt := 21) hx hb dX12_shiftsNames_4 (by decide) (fun c1 => ?_) (fun c1 => ?_)
    · have hi9 : i = n := by have h9 := (nI_leI (a := n) (b := i) (by omega) (by omega)).mp c1; omega
      rw [hi9] at hw
      exact k_vret hC hr hlocks hw [0] rfl rfl ⟨rfl, rfl⟩ (by decide) (by decide) dX12_shiftsNames_21
    · have hi9 : i < n := by rcases Nat.lt_or_ge i n with h9 | h9; exact h9; exact absurd (nI_le h9 (by omega)) c1
      refine lv_aload_n hx hb dX12_shiftsNames_7 rfl (lv_at hl 1 rfl) ?_
      refine lv_iload_n hx hb dX12_shiftsNames_8 rfl (lv_at hl 0 rfl) ?_
      refine lv_aload_n hx hb dX12_shiftsNames_9 rfl (lv_at hl 1 rfl) ?_
      refine lv_iload_n hx hb dX12_shiftsNames_10 rfl (lv_at hl 2 rfl) ?_
      refine lv_iload_n hx hb dX12_shiftsNames_11 rfl (lv_at hl 0 rfl) ?_
      refine lv_iadd hx hb dX12_shiftsNames_12 ?_
      refine lv_topi (fun x_58 ex_58 => ?_)
      obtain rfl : x_58 = (nI (n + i)) := ex_58.trans (nI_add n i)
      refine k_lald hC hw 0 rfl (vp_in_nI (by omega) hb9) dX12_shiftsNames_13 ?_
      refine lv_topl (fun x_59 ex_59 => ?_)
      obtain rfl : x_59 = ((shQ f n i)) ((n + i)) := (show x_59 = ((shQ f n i)) (nI ((n + i)) : Int32).toNatClampNeg from ex_59).trans (by rw [nI_clamp (by omega)])
      refine k_last hC hw 0 rfl (vp_in_nI (by omega) hb9) dX12_shiftsNames_14 (fun H locs hw => ?_)
      obtain ⟨f_60, ef_60⟩ : ∃ g, g = vp_updL ((shQ f n i)) ((nI i) : Int32).toNatClampNeg (((shQ f n i)) ((n + i))) := ⟨_, rfl⟩
      have hw : kW γ A [(a, .inl (γ.2.1 1, N, .inr (.inl f_60)))] s H locs := by rw [ef_60]; exact hw
      refine lv_iinc (v := (nI (i + 1))) (lv' := [(2, .int (nI (i + 1))), (0, .ref a), (1, .int (nI n))]) hx hb dX12_shiftsNames_15 hl (k := 0) rfl (nI_1 i) (by decide) rfl (fun ls hl => ?_)
      refine lv_goto (tgt := 2) hx hb dX12_shiftsNames_18 (by decide) ?_
      have hE : f_60 = shQ f n (i + 1) := ef_60.trans (shQ_step hi9 (by omega))
      rw [hE] at hw
      exact ih (i + 1) (by omega) (by omega) _ _ (kW.sub hw [0] rfl rfl) _ (lv_sub hl [0, 1, 2] rfl)

set_option maxHeartbeats 4000000 in
set_option maxRecDepth 100000 in
theorem c_shQ (γ : kΓ) (l : Launch) (a : Nat) (N : Nat) (f : Nat → Int64) (n : Nat) (hN : n + n ≤ N) (hb9 : N < 2 ^ 31) : kM γ l yX12_shiftsNames cX12_shiftsNames 3 none ({ frames := 0, cells := 0, slots := 0, locals := 0 } : Room) [.ref a, .int (nI n)] [(a, .inl (γ.2.1 1, N, .inr (.inl f)))] (fun r w1 => r = none ∧ w1 = [(a, .inl (γ.2.1 1, N, .inr (.inl ((shQ f n n)))))]) := by
  refine k_ofW (by decide) (Nat.le_of_ble_eq_true rfl) ?_
  intro p9 e s m below meth c A ls hC hr hlocks hname hw hl
  have hx := hC.1
  have hb := hC.2.1
  have hl : lv_has ls 3 [(0, .ref a), (1, .int (nI n))] := hl
  refine lv_iconst (v := 0) hx hb dX12_shiftsNames_0 (by decide) ?_
  refine lv_istore_n (lv' := [(2, .int 0), (0, .ref a), (1, .int (nI n))]) hx hb dX12_shiftsNames_1 rfl hl (by decide) rfl (fun ls hl => ?_)
  have hw : kW γ A [(a, .inl (γ.2.1 1, N, .inr (.inl ((shQ f n 0)))))] s s.heap [] := by rw [← shQ_0]; exact hw
  exact lp_shQ a N f n hN hb9 hC hr hlocks (n + 1) 0 (by omega) (Nat.zero_le n) _ _ hw _ (lv_sub hl [0, 1, 2] rfl)

set_option maxHeartbeats 4000000 in
set_option maxRecDepth 100000 in
theorem c_m_lays (γ : kΓ) (l : Launch) (z : Nat) (z2 : Nat) (z10 : Nat) (z11 : Nat) (z12 : Nat) (z13 : Nat) (z14 : Nat) (z15 : Nat) (z16 : Nat) (z17 : Nat) (z18 : Nat) (z19 : Nat) (z22 : Nat) (z23 : Nat) (z24 : Nat) (z25 : Nat) (z26 : Nat) (z27 : Nat) (z28 : Nat) (z29 : Nat) (z30 : Nat) (z31 : Nat) (z32 : Nat) (z33 : Nat) (z36 : Nat) (z37 : Nat) (z38 : Nat) (z39 : Nat) (z40 : Nat) (z41 : Nat) (z42 : Nat) (z43 : Nat) (z44 : Nat) (z45 : Nat) (z46 : Nat) (z47 : Nat) (z48 : Nat) (z55 : Nat) (z56 : Nat) (z59 : Nat) (z60 : Nat) (z61 : Nat) (n0 : Int32) (n1 : Int32) (n3 : Int32) (n4 : Int32) (n5 : Int32) (n6 : Int32) (n7 : Int64) (n8 : Int32) (n9 : Int32) (n20 : Int32) (n21 : Int32) (n34 : Int32) (n35 : Int64) (n49 : Int32) (n50 : Int32) (n51 : Int32) (n52 : Int32) (n53 : Int32) (n54 : Int32) (n57 : Int32) (n58 : Int32) (n62 : Int32) (n63 : Int64) (c_abbey : Nat → Int32) (c_thoughtName : Nat → Int64) (c_tenantName : Nat → Int64) (c_worthOf : Nat → Int32) (c_part : Nat → Int32) (c_behind : Nat → Int32) (c_kind : Nat → Int32) (c_codes : Nat → Int32) (c_lineFrom : Nat → Int32) (c_lineTo : Nat → Int32) : kM γ l yX12_lays cX12_lays 2 none ({ frames := 1, cells := 0, slots := 0, locals := 22 } : Room) [.ref z] [(z, .inr (11, [.int n0, .int n1, .ref z2, .int n3, .int n4, .int n5, .int n6, .long n7, .int n8, .int n9, .ref z10, .ref z11, .ref z12, .ref z13, .ref z14, .ref z15, .ref z16, .ref z17, .ref z18, .ref z19, .int n20, .int n21, .ref z22, .ref z23, .ref z24, .ref z25, .ref z26, .ref z27, .ref z28, .ref z29, .ref z30, .ref z31, .ref z32, .ref z33, .int n34, .long n35, .ref z36, .ref z37, .ref z38, .ref z39, .ref z40, .ref z41, .ref z42, .ref z43, .ref z44, .ref z45, .ref z46, .ref z47, .ref z48, .int n49, .int n50, .int n51, .int n52, .int n53, .int n54, .ref z55, .ref z56, .int n57, .int n58, .ref z59, .ref z60, .ref z61, .int n62, .long n63])), (z10, .inl (γ.2.1 0, 10, .inl c_abbey)), (z11, .inl (γ.2.1 1, 16, .inr (.inl c_thoughtName))), (z12, .inl (γ.2.1 1, 10, .inr (.inl c_tenantName))), (z13, .inl (γ.2.1 0, 16, .inl c_worthOf)), (z14, .inl (γ.2.1 0, 16, .inl c_part)), (z15, .inl (γ.2.1 0, 16, .inl c_behind)), (z16, .inl (γ.2.1 0, 10, .inl c_kind)), (z19, .inl (γ.2.1 0, 2000, .inl c_codes)), (z17, .inl (γ.2.1 0, 4, .inl c_lineFrom)), (z18, .inl (γ.2.1 0, 4, .inl c_lineTo))] (fun r w1 => ∃ (h_lf : Nat → Int32), ∃ (h_lt : Nat → Int32), r = none ∧ w1 = [(z, .inr (11, [.int n0, .int n1, .ref z2, .int n3, .int n4, .int n5, .int n6, .long n7, .int n8, .int n9, .ref z10, .ref z11, .ref z12, .ref z13, .ref z14, .ref z15, .ref z16, .ref z17, .ref z18, .ref z19, .int n20, .int n21, .ref z22, .ref z23, .ref z24, .ref z25, .ref z26, .ref z27, .ref z28, .ref z29, .ref z30, .ref z31, .ref z32, .ref z33, .int n34, .long n35, .ref z36, .ref z37, .ref z38, .ref z39, .ref z40, .ref z41, .ref z42, .ref z43, .ref z44, .ref z45, .ref z46, .ref z47, .ref z48, .int n49, .int n50, .int n51, .int n52, .int n53, .int n54, .ref z55, .ref z56, .int n57, .int n58, .ref z59, .ref z60, .ref z61, .int n62, .long n63])), (z10, .inl (γ.2.1 0, 10, .inl ((shP c_abbey 5 5)))), (z11, .inl (γ.2.1 1, 16, .inr (.inl ((shQ c_thoughtName 8 8))))), (z12, .inl (γ.2.1 1, 10, .inr (.inl ((shQ c_tenantName 5 5))))), (z13, .inl (γ.2.1 0, 16, .inl ((shP c_worthOf 8 8)))), (z14, .inl (γ.2.1 0, 16, .inl ((shP c_part 8 8)))), (z15, .inl (γ.2.1 0, 16, .inl ((shP c_behind 8 8)))), (z16, .inl (γ.2.1 0, 10, .inl ((shP c_kind 5 5)))), (z19, .inl (γ.2.1 0, 2000, .inl ((shP c_codes 1000 1000)))), (z17, .inl (γ.2.1 0, 4, .inl h_lf)), (z18, .inl (γ.2.1 0, 4, .inl h_lt))]) := by
  refine k_ofW (by decide) (Nat.le_of_ble_eq_true rfl) ?_
  intro p9 e s m below meth c A ls hC hr hlocks hname hw hl
  have hx := hC.1
  have hb := hC.2.1
  have hl : lv_has ls 2 [(0, .ref z)] := hl
  refine lv_aload_n hx hb dX12_lays_0 rfl (lv_at hl 0 rfl) ?_
  refine fg_RX12_13 hC hw 0 rfl rfl dX12_lays_1 ?_
  refine lv_iconst (v := 5) hx hb dX12_lays_4 (by decide) ?_
  refine k_S (wr := [(z, .inr (11, [.int n0, .int n1, .ref z2, .int n3, .int n4, .int n5, .int n6, .long n7, .int n8, .int n9, .ref z10, .ref z11, .ref z12, .ref z13, .ref z14, .ref z15, .ref z16, .ref z17, .ref z18, .ref z19, .int n20, .int n21, .ref z22, .ref z23, .ref z24, .ref z25, .ref z26, .ref z27, .ref z28, .ref z29, .ref z30, .ref z31, .ref z32, .ref z33, .int n34, .long n35, .ref z36, .ref z37, .ref z38, .ref z39, .ref z40, .ref z41, .ref z42, .ref z43, .ref z44, .ref z45, .ref z46, .ref z47, .ref z48, .int n49, .int n50, .int n51, .int n52, .int n53, .int n54, .ref z55, .ref z56, .int n57, .int n58, .ref z59, .ref z60, .ref z61, .int n62, .long n63])), (z11, .inl (γ.2.1 1, 16, .inr (.inl c_thoughtName))), (z12, .inl (γ.2.1 1, 10, .inr (.inl c_tenantName))), (z13, .inl (γ.2.1 0, 16, .inl c_worthOf)), (z14, .inl (γ.2.1 0, 16, .inl c_part)), (z15, .inl (γ.2.1 0, 16, .inl c_behind)), (z16, .inl (γ.2.1 0, 10, .inl c_kind)), (z19, .inl (γ.2.1 0, 2000, .inl c_codes)), (z17, .inl (γ.2.1 0, 4, .inl c_lineFrom)), (z18, .inl (γ.2.1 0, 4, .inl c_lineTo))]) 2 gw_1519 gw_1520 gw_15 gw_1521 hd_X12_shifts hC hw (c_shP γ l z10 10 c_abbey 5 (by decide) (by decide)) ⟨by decide, by decide⟩ ⟨by decide, by decide⟩ hl.1 rfl rfl (Nat.le_of_ble_eq_true rfl) [1] [0, 2, 3, 4, 5, 6, 7, 8, 9, 10] rfl rfl rfl rfl (by decide) dX12_lays_5 (fun r w1 H locs hq hw => ?_)
  obtain ⟨rfl, rfl⟩ := hq
  have hw : kW γ A [(z, .inr (11, [.int n0, .int n1, .ref z2, .int n3, .int n4, .int n5, .int n6, .long n7, .int n8, .int n9, .ref z10, .ref z11, .ref z12, .ref z13, .ref z14, .ref z15, .ref z16, .ref z17, .ref z18, .ref z19, .int n20, .int n21, .ref z22, .ref z23, .ref z24, .ref z25, .ref z26, .ref z27, .ref z28, .ref z29, .ref z30, .ref z31, .ref z32, .ref z33, .int n34, .long n35, .ref z36, .ref z37, .ref z38, .ref z39, .ref z40, .ref z41, .ref z42, .ref z43, .ref z44, .ref z45, .ref z46, .ref z47, .ref z48, .int n49, .int n50, .int n51, .int n52, .int n53, .int n54, .ref z55, .ref z56, .int n57, .int n58, .ref z59, .ref z60, .ref z61, .int n62, .long n63])), (z11, .inl (γ.2.1 1, 16, .inr (.inl c_thoughtName))), (z12, .inl (γ.2.1 1, 10, .inr (.inl c_tenantName))), (z13, .inl (γ.2.1 0, 16, .inl c_worthOf)), (z14, .inl (γ.2.1 0, 16, .inl c_part)), (z15, .inl (γ.2.1 0, 16, .inl c_behind)), (z16, .inl (γ.2.1 0, 10, .inl c_kind)), (z19, .inl (γ.2.1 0, 2000, .inl c_codes)), (z17, .inl (γ.2.1 0, 4, .inl c_lineFrom)), (z18, .inl (γ.2.1 0, 4, .inl c_lineTo)), (z10, .inl (γ.2.1 0, 10, .inl ((shP c_abbey 5 5))))] s H locs := hw
  refine W.eq (g2 := F0 m 8 ls []) rfl ?_
  refine lv_aload_n hx hb dX12_lays_8 rfl (lv_at hl 0 rfl) ?_
  refine fg_RX12_16 hC hw 0 rfl rfl dX12_lays_9 ?_
  refine lv_bipush (v := 8) hx hb dX12_lays_12 (by decide) ?_
  refine k_S (wr := [(z, .inr (11, [.int n0, .int n1, .ref z2, .int n3, .int n4, .int n5, .int n6, .long n7, .int n8, .int n9, .ref z10, .ref z11, .ref z12, .ref z13, .ref z14, .ref z15, .ref z16, .ref z17, .ref z18, .ref z19, .int n20, .int n21, .ref z22, .ref z23, .ref z24, .ref z25, .ref z26, .ref z27, .ref z28, .ref z29, .ref z30, .ref z31, .ref z32, .ref z33, .int n34, .long n35, .ref z36, .ref z37, .ref z38, .ref z39, .ref z40, .ref z41, .ref z42, .ref z43, .ref z44, .ref z45, .ref z46, .ref z47, .ref z48, .int n49, .int n50, .int n51, .int n52, .int n53, .int n54, .ref z55, .ref z56, .int n57, .int n58, .ref z59, .ref z60, .ref z61, .int n62, .long n63])), (z12, .inl (γ.2.1 1, 10, .inr (.inl c_tenantName))), (z13, .inl (γ.2.1 0, 16, .inl c_worthOf)), (z14, .inl (γ.2.1 0, 16, .inl c_part)), (z15, .inl (γ.2.1 0, 16, .inl c_behind)), (z16, .inl (γ.2.1 0, 10, .inl c_kind)), (z19, .inl (γ.2.1 0, 2000, .inl c_codes)), (z17, .inl (γ.2.1 0, 4, .inl c_lineFrom)), (z18, .inl (γ.2.1 0, 4, .inl c_lineTo)), (z10, .inl (γ.2.1 0, 10, .inl ((shP c_abbey 5 5))))]) 2 gw_1522 gw_1523 gw_15 gw_1524 hd_X12_shiftsNames hC hw (c_shQ γ l z11 16 c_thoughtName 8 (by decide) (by decide)) ⟨by decide, by decide⟩ ⟨by decide, by decide⟩ hl.1 rfl rfl (Nat.le_of_ble_eq_true rfl) [1] [0, 2, 3, 4, 5, 6, 7, 8, 9, 10] rfl rfl rfl rfl (by decide) dX12_lays_14 (fun r w1 H locs hq hw => ?_)
  obtain ⟨rfl, rfl⟩ := hq
  have hw : kW γ A [(z, .inr (11, [.int n0, .int n1, .ref z2, .int n3, .int n4, .int n5, .int n6, .long n7, .int n8, .int n9, .ref z10, .ref z11, .ref z12, .ref z13, .ref z14, .ref z15, .ref z16, .ref z17, .ref z18, .ref z19, .int n20, .int n21, .ref z22, .ref z23, .ref z24, .ref z25, .ref z26, .ref z27, .ref z28, .ref z29, .ref z30, .ref z31, .ref z32, .ref z33, .int n34, .long n35, .ref z36, .ref z37, .ref z38, .ref z39, .ref z40, .ref z41, .ref z42, .ref z43, .ref z44, .ref z45, .ref z46, .ref z47, .ref z48, .int n49, .int n50, .int n51, .int n52, .int n53, .int n54, .ref z55, .ref z56, .int n57, .int n58, .ref z59, .ref z60, .ref z61, .int n62, .long n63])), (z12, .inl (γ.2.1 1, 10, .inr (.inl c_tenantName))), (z13, .inl (γ.2.1 0, 16, .inl c_worthOf)), (z14, .inl (γ.2.1 0, 16, .inl c_part)), (z15, .inl (γ.2.1 0, 16, .inl c_behind)), (z16, .inl (γ.2.1 0, 10, .inl c_kind)), (z19, .inl (γ.2.1 0, 2000, .inl c_codes)), (z17, .inl (γ.2.1 0, 4, .inl c_lineFrom)), (z18, .inl (γ.2.1 0, 4, .inl c_lineTo)), (z10, .inl (γ.2.1 0, 10, .inl ((shP c_abbey 5 5)))), (z11, .inl (γ.2.1 1, 16, .inr (.inl ((shQ c_thoughtName 8 8)))))] s H locs := hw
  refine W.eq (g2 := F0 m 17 ls []) rfl ?_
  refine lv_aload_n hx hb dX12_lays_17 rfl (lv_at hl 0 rfl) ?_
  refine fg_RX12_20 hC hw 0 rfl rfl dX12_lays_18 ?_
  refine lv_iconst (v := 5) hx hb dX12_lays_21 (by decide) ?_
  refine k_S (wr := [(z, .inr (11, [.int n0, .int n1, .ref z2, .int n3, .int n4, .int n5, .int n6, .long n7, .int n8, .int n9, .ref z10, .ref z11, .ref z12, .ref z13, .ref z14, .ref z15, .ref z16, .ref z17, .ref z18, .ref z19, .int n20, .int n21, .ref z22, .ref z23, .ref z24, .ref z25, .ref z26, .ref z27, .ref z28, .ref z29, .ref z30, .ref z31, .ref z32, .ref z33, .int n34, .long n35, .ref z36, .ref z37, .ref z38, .ref z39, .ref z40, .ref z41, .ref z42, .ref z43, .ref z44, .ref z45, .ref z46, .ref z47, .ref z48, .int n49, .int n50, .int n51, .int n52, .int n53, .int n54, .ref z55, .ref z56, .int n57, .int n58, .ref z59, .ref z60, .ref z61, .int n62, .long n63])), (z13, .inl (γ.2.1 0, 16, .inl c_worthOf)), (z14, .inl (γ.2.1 0, 16, .inl c_part)), (z15, .inl (γ.2.1 0, 16, .inl c_behind)), (z16, .inl (γ.2.1 0, 10, .inl c_kind)), (z19, .inl (γ.2.1 0, 2000, .inl c_codes)), (z17, .inl (γ.2.1 0, 4, .inl c_lineFrom)), (z18, .inl (γ.2.1 0, 4, .inl c_lineTo)), (z10, .inl (γ.2.1 0, 10, .inl ((shP c_abbey 5 5)))), (z11, .inl (γ.2.1 1, 16, .inr (.inl ((shQ c_thoughtName 8 8)))))]) 2 gw_1522 gw_1523 gw_15 gw_1524 hd_X12_shiftsNames hC hw (c_shQ γ l z12 10 c_tenantName 5 (by decide) (by decide)) ⟨by decide, by decide⟩ ⟨by decide, by decide⟩ hl.1 rfl rfl (Nat.le_of_ble_eq_true rfl) [1] [0, 2, 3, 4, 5, 6, 7, 8, 9, 10] rfl rfl rfl rfl (by decide) dX12_lays_22 (fun r w1 H locs hq hw => ?_)
  obtain ⟨rfl, rfl⟩ := hq
  have hw : kW γ A [(z, .inr (11, [.int n0, .int n1, .ref z2, .int n3, .int n4, .int n5, .int n6, .long n7, .int n8, .int n9, .ref z10, .ref z11, .ref z12, .ref z13, .ref z14, .ref z15, .ref z16, .ref z17, .ref z18, .ref z19, .int n20, .int n21, .ref z22, .ref z23, .ref z24, .ref z25, .ref z26, .ref z27, .ref z28, .ref z29, .ref z30, .ref z31, .ref z32, .ref z33, .int n34, .long n35, .ref z36, .ref z37, .ref z38, .ref z39, .ref z40, .ref z41, .ref z42, .ref z43, .ref z44, .ref z45, .ref z46, .ref z47, .ref z48, .int n49, .int n50, .int n51, .int n52, .int n53, .int n54, .ref z55, .ref z56, .int n57, .int n58, .ref z59, .ref z60, .ref z61, .int n62, .long n63])), (z13, .inl (γ.2.1 0, 16, .inl c_worthOf)), (z14, .inl (γ.2.1 0, 16, .inl c_part)), (z15, .inl (γ.2.1 0, 16, .inl c_behind)), (z16, .inl (γ.2.1 0, 10, .inl c_kind)), (z19, .inl (γ.2.1 0, 2000, .inl c_codes)), (z17, .inl (γ.2.1 0, 4, .inl c_lineFrom)), (z18, .inl (γ.2.1 0, 4, .inl c_lineTo)), (z10, .inl (γ.2.1 0, 10, .inl ((shP c_abbey 5 5)))), (z11, .inl (γ.2.1 1, 16, .inr (.inl ((shQ c_thoughtName 8 8))))), (z12, .inl (γ.2.1 1, 10, .inr (.inl ((shQ c_tenantName 5 5)))))] s H locs := hw
  refine W.eq (g2 := F0 m 25 ls []) rfl ?_
  refine lv_aload_n hx hb dX12_lays_25 rfl (lv_at hl 0 rfl) ?_
  refine fg_RX12_23 hC hw 0 rfl rfl dX12_lays_26 ?_
  refine lv_bipush (v := 8) hx hb dX12_lays_29 (by decide) ?_
  refine k_S (wr := [(z, .inr (11, [.int n0, .int n1, .ref z2, .int n3, .int n4, .int n5, .int n6, .long n7, .int n8, .int n9, .ref z10, .ref z11, .ref z12, .ref z13, .ref z14, .ref z15, .ref z16, .ref z17, .ref z18, .ref z19, .int n20, .int n21, .ref z22, .ref z23, .ref z24, .ref z25, .ref z26, .ref z27, .ref z28, .ref z29, .ref z30, .ref z31, .ref z32, .ref z33, .int n34, .long n35, .ref z36, .ref z37, .ref z38, .ref z39, .ref z40, .ref z41, .ref z42, .ref z43, .ref z44, .ref z45, .ref z46, .ref z47, .ref z48, .int n49, .int n50, .int n51, .int n52, .int n53, .int n54, .ref z55, .ref z56, .int n57, .int n58, .ref z59, .ref z60, .ref z61, .int n62, .long n63])), (z14, .inl (γ.2.1 0, 16, .inl c_part)), (z15, .inl (γ.2.1 0, 16, .inl c_behind)), (z16, .inl (γ.2.1 0, 10, .inl c_kind)), (z19, .inl (γ.2.1 0, 2000, .inl c_codes)), (z17, .inl (γ.2.1 0, 4, .inl c_lineFrom)), (z18, .inl (γ.2.1 0, 4, .inl c_lineTo)), (z10, .inl (γ.2.1 0, 10, .inl ((shP c_abbey 5 5)))), (z11, .inl (γ.2.1 1, 16, .inr (.inl ((shQ c_thoughtName 8 8))))), (z12, .inl (γ.2.1 1, 10, .inr (.inl ((shQ c_tenantName 5 5)))))]) 2 gw_1519 gw_1520 gw_15 gw_1521 hd_X12_shifts hC hw (c_shP γ l z13 16 c_worthOf 8 (by decide) (by decide)) ⟨by decide, by decide⟩ ⟨by decide, by decide⟩ hl.1 rfl rfl (Nat.le_of_ble_eq_true rfl) [1] [0, 2, 3, 4, 5, 6, 7, 8, 9, 10] rfl rfl rfl rfl (by decide) dX12_lays_31 (fun r w1 H locs hq hw => ?_)
  obtain ⟨rfl, rfl⟩ := hq
  have hw : kW γ A [(z, .inr (11, [.int n0, .int n1, .ref z2, .int n3, .int n4, .int n5, .int n6, .long n7, .int n8, .int n9, .ref z10, .ref z11, .ref z12, .ref z13, .ref z14, .ref z15, .ref z16, .ref z17, .ref z18, .ref z19, .int n20, .int n21, .ref z22, .ref z23, .ref z24, .ref z25, .ref z26, .ref z27, .ref z28, .ref z29, .ref z30, .ref z31, .ref z32, .ref z33, .int n34, .long n35, .ref z36, .ref z37, .ref z38, .ref z39, .ref z40, .ref z41, .ref z42, .ref z43, .ref z44, .ref z45, .ref z46, .ref z47, .ref z48, .int n49, .int n50, .int n51, .int n52, .int n53, .int n54, .ref z55, .ref z56, .int n57, .int n58, .ref z59, .ref z60, .ref z61, .int n62, .long n63])), (z14, .inl (γ.2.1 0, 16, .inl c_part)), (z15, .inl (γ.2.1 0, 16, .inl c_behind)), (z16, .inl (γ.2.1 0, 10, .inl c_kind)), (z19, .inl (γ.2.1 0, 2000, .inl c_codes)), (z17, .inl (γ.2.1 0, 4, .inl c_lineFrom)), (z18, .inl (γ.2.1 0, 4, .inl c_lineTo)), (z10, .inl (γ.2.1 0, 10, .inl ((shP c_abbey 5 5)))), (z11, .inl (γ.2.1 1, 16, .inr (.inl ((shQ c_thoughtName 8 8))))), (z12, .inl (γ.2.1 1, 10, .inr (.inl ((shQ c_tenantName 5 5))))), (z13, .inl (γ.2.1 0, 16, .inl ((shP c_worthOf 8 8))))] s H locs := hw
  refine W.eq (g2 := F0 m 34 ls []) rfl ?_
  refine lv_aload_n hx hb dX12_lays_34 rfl (lv_at hl 0 rfl) ?_
  refine fg_RX12_26 hC hw 0 rfl rfl dX12_lays_35 ?_
  refine lv_bipush (v := 8) hx hb dX12_lays_38 (by decide) ?_
  refine k_S (wr := [(z, .inr (11, [.int n0, .int n1, .ref z2, .int n3, .int n4, .int n5, .int n6, .long n7, .int n8, .int n9, .ref z10, .ref z11, .ref z12, .ref z13, .ref z14, .ref z15, .ref z16, .ref z17, .ref z18, .ref z19, .int n20, .int n21, .ref z22, .ref z23, .ref z24, .ref z25, .ref z26, .ref z27, .ref z28, .ref z29, .ref z30, .ref z31, .ref z32, .ref z33, .int n34, .long n35, .ref z36, .ref z37, .ref z38, .ref z39, .ref z40, .ref z41, .ref z42, .ref z43, .ref z44, .ref z45, .ref z46, .ref z47, .ref z48, .int n49, .int n50, .int n51, .int n52, .int n53, .int n54, .ref z55, .ref z56, .int n57, .int n58, .ref z59, .ref z60, .ref z61, .int n62, .long n63])), (z15, .inl (γ.2.1 0, 16, .inl c_behind)), (z16, .inl (γ.2.1 0, 10, .inl c_kind)), (z19, .inl (γ.2.1 0, 2000, .inl c_codes)), (z17, .inl (γ.2.1 0, 4, .inl c_lineFrom)), (z18, .inl (γ.2.1 0, 4, .inl c_lineTo)), (z10, .inl (γ.2.1 0, 10, .inl ((shP c_abbey 5 5)))), (z11, .inl (γ.2.1 1, 16, .inr (.inl ((shQ c_thoughtName 8 8))))), (z12, .inl (γ.2.1 1, 10, .inr (.inl ((shQ c_tenantName 5 5))))), (z13, .inl (γ.2.1 0, 16, .inl ((shP c_worthOf 8 8))))]) 2 gw_1519 gw_1520 gw_15 gw_1521 hd_X12_shifts hC hw (c_shP γ l z14 16 c_part 8 (by decide) (by decide)) ⟨by decide, by decide⟩ ⟨by decide, by decide⟩ hl.1 rfl rfl (Nat.le_of_ble_eq_true rfl) [1] [0, 2, 3, 4, 5, 6, 7, 8, 9, 10] rfl rfl rfl rfl (by decide) dX12_lays_40 (fun r w1 H locs hq hw => ?_)
  obtain ⟨rfl, rfl⟩ := hq
  have hw : kW γ A [(z, .inr (11, [.int n0, .int n1, .ref z2, .int n3, .int n4, .int n5, .int n6, .long n7, .int n8, .int n9, .ref z10, .ref z11, .ref z12, .ref z13, .ref z14, .ref z15, .ref z16, .ref z17, .ref z18, .ref z19, .int n20, .int n21, .ref z22, .ref z23, .ref z24, .ref z25, .ref z26, .ref z27, .ref z28, .ref z29, .ref z30, .ref z31, .ref z32, .ref z33, .int n34, .long n35, .ref z36, .ref z37, .ref z38, .ref z39, .ref z40, .ref z41, .ref z42, .ref z43, .ref z44, .ref z45, .ref z46, .ref z47, .ref z48, .int n49, .int n50, .int n51, .int n52, .int n53, .int n54, .ref z55, .ref z56, .int n57, .int n58, .ref z59, .ref z60, .ref z61, .int n62, .long n63])), (z15, .inl (γ.2.1 0, 16, .inl c_behind)), (z16, .inl (γ.2.1 0, 10, .inl c_kind)), (z19, .inl (γ.2.1 0, 2000, .inl c_codes)), (z17, .inl (γ.2.1 0, 4, .inl c_lineFrom)), (z18, .inl (γ.2.1 0, 4, .inl c_lineTo)), (z10, .inl (γ.2.1 0, 10, .inl ((shP c_abbey 5 5)))), (z11, .inl (γ.2.1 1, 16, .inr (.inl ((shQ c_thoughtName 8 8))))), (z12, .inl (γ.2.1 1, 10, .inr (.inl ((shQ c_tenantName 5 5))))), (z13, .inl (γ.2.1 0, 16, .inl ((shP c_worthOf 8 8)))), (z14, .inl (γ.2.1 0, 16, .inl ((shP c_part 8 8))))] s H locs := hw
  refine W.eq (g2 := F0 m 43 ls []) rfl ?_
  refine lv_aload_n hx hb dX12_lays_43 rfl (lv_at hl 0 rfl) ?_
  refine fg_RX12_29 hC hw 0 rfl rfl dX12_lays_44 ?_
  refine lv_bipush (v := 8) hx hb dX12_lays_47 (by decide) ?_
  refine k_S (wr := [(z, .inr (11, [.int n0, .int n1, .ref z2, .int n3, .int n4, .int n5, .int n6, .long n7, .int n8, .int n9, .ref z10, .ref z11, .ref z12, .ref z13, .ref z14, .ref z15, .ref z16, .ref z17, .ref z18, .ref z19, .int n20, .int n21, .ref z22, .ref z23, .ref z24, .ref z25, .ref z26, .ref z27, .ref z28, .ref z29, .ref z30, .ref z31, .ref z32, .ref z33, .int n34, .long n35, .ref z36, .ref z37, .ref z38, .ref z39, .ref z40, .ref z41, .ref z42, .ref z43, .ref z44, .ref z45, .ref z46, .ref z47, .ref z48, .int n49, .int n50, .int n51, .int n52, .int n53, .int n54, .ref z55, .ref z56, .int n57, .int n58, .ref z59, .ref z60, .ref z61, .int n62, .long n63])), (z16, .inl (γ.2.1 0, 10, .inl c_kind)), (z19, .inl (γ.2.1 0, 2000, .inl c_codes)), (z17, .inl (γ.2.1 0, 4, .inl c_lineFrom)), (z18, .inl (γ.2.1 0, 4, .inl c_lineTo)), (z10, .inl (γ.2.1 0, 10, .inl ((shP c_abbey 5 5)))), (z11, .inl (γ.2.1 1, 16, .inr (.inl ((shQ c_thoughtName 8 8))))), (z12, .inl (γ.2.1 1, 10, .inr (.inl ((shQ c_tenantName 5 5))))), (z13, .inl (γ.2.1 0, 16, .inl ((shP c_worthOf 8 8)))), (z14, .inl (γ.2.1 0, 16, .inl ((shP c_part 8 8))))]) 2 gw_1519 gw_1520 gw_15 gw_1521 hd_X12_shifts hC hw (c_shP γ l z15 16 c_behind 8 (by decide) (by decide)) ⟨by decide, by decide⟩ ⟨by decide, by decide⟩ hl.1 rfl rfl (Nat.le_of_ble_eq_true rfl) [1] [0, 2, 3, 4, 5, 6, 7, 8, 9, 10] rfl rfl rfl rfl (by decide) dX12_lays_49 (fun r w1 H locs hq hw => ?_)
  obtain ⟨rfl, rfl⟩ := hq
  have hw : kW γ A [(z, .inr (11, [.int n0, .int n1, .ref z2, .int n3, .int n4, .int n5, .int n6, .long n7, .int n8, .int n9, .ref z10, .ref z11, .ref z12, .ref z13, .ref z14, .ref z15, .ref z16, .ref z17, .ref z18, .ref z19, .int n20, .int n21, .ref z22, .ref z23, .ref z24, .ref z25, .ref z26, .ref z27, .ref z28, .ref z29, .ref z30, .ref z31, .ref z32, .ref z33, .int n34, .long n35, .ref z36, .ref z37, .ref z38, .ref z39, .ref z40, .ref z41, .ref z42, .ref z43, .ref z44, .ref z45, .ref z46, .ref z47, .ref z48, .int n49, .int n50, .int n51, .int n52, .int n53, .int n54, .ref z55, .ref z56, .int n57, .int n58, .ref z59, .ref z60, .ref z61, .int n62, .long n63])), (z16, .inl (γ.2.1 0, 10, .inl c_kind)), (z19, .inl (γ.2.1 0, 2000, .inl c_codes)), (z17, .inl (γ.2.1 0, 4, .inl c_lineFrom)), (z18, .inl (γ.2.1 0, 4, .inl c_lineTo)), (z10, .inl (γ.2.1 0, 10, .inl ((shP c_abbey 5 5)))), (z11, .inl (γ.2.1 1, 16, .inr (.inl ((shQ c_thoughtName 8 8))))), (z12, .inl (γ.2.1 1, 10, .inr (.inl ((shQ c_tenantName 5 5))))), (z13, .inl (γ.2.1 0, 16, .inl ((shP c_worthOf 8 8)))), (z14, .inl (γ.2.1 0, 16, .inl ((shP c_part 8 8)))), (z15, .inl (γ.2.1 0, 16, .inl ((shP c_behind 8 8))))] s H locs := hw
  refine W.eq (g2 := F0 m 52 ls []) rfl ?_
  refine lv_aload_n hx hb dX12_lays_52 rfl (lv_at hl 0 rfl) ?_
  refine fg_RX12_32 hC hw 0 rfl rfl dX12_lays_53 ?_
  refine lv_iconst (v := 5) hx hb dX12_lays_56 (by decide) ?_
  refine k_S (wr := [(z, .inr (11, [.int n0, .int n1, .ref z2, .int n3, .int n4, .int n5, .int n6, .long n7, .int n8, .int n9, .ref z10, .ref z11, .ref z12, .ref z13, .ref z14, .ref z15, .ref z16, .ref z17, .ref z18, .ref z19, .int n20, .int n21, .ref z22, .ref z23, .ref z24, .ref z25, .ref z26, .ref z27, .ref z28, .ref z29, .ref z30, .ref z31, .ref z32, .ref z33, .int n34, .long n35, .ref z36, .ref z37, .ref z38, .ref z39, .ref z40, .ref z41, .ref z42, .ref z43, .ref z44, .ref z45, .ref z46, .ref z47, .ref z48, .int n49, .int n50, .int n51, .int n52, .int n53, .int n54, .ref z55, .ref z56, .int n57, .int n58, .ref z59, .ref z60, .ref z61, .int n62, .long n63])), (z19, .inl (γ.2.1 0, 2000, .inl c_codes)), (z17, .inl (γ.2.1 0, 4, .inl c_lineFrom)), (z18, .inl (γ.2.1 0, 4, .inl c_lineTo)), (z10, .inl (γ.2.1 0, 10, .inl ((shP c_abbey 5 5)))), (z11, .inl (γ.2.1 1, 16, .inr (.inl ((shQ c_thoughtName 8 8))))), (z12, .inl (γ.2.1 1, 10, .inr (.inl ((shQ c_tenantName 5 5))))), (z13, .inl (γ.2.1 0, 16, .inl ((shP c_worthOf 8 8)))), (z14, .inl (γ.2.1 0, 16, .inl ((shP c_part 8 8)))), (z15, .inl (γ.2.1 0, 16, .inl ((shP c_behind 8 8))))]) 2 gw_1519 gw_1520 gw_15 gw_1521 hd_X12_shifts hC hw (c_shP γ l z16 10 c_kind 5 (by decide) (by decide)) ⟨by decide, by decide⟩ ⟨by decide, by decide⟩ hl.1 rfl rfl (Nat.le_of_ble_eq_true rfl) [1] [0, 2, 3, 4, 5, 6, 7, 8, 9, 10] rfl rfl rfl rfl (by decide) dX12_lays_57 (fun r w1 H locs hq hw => ?_)
  obtain ⟨rfl, rfl⟩ := hq
  have hw : kW γ A [(z, .inr (11, [.int n0, .int n1, .ref z2, .int n3, .int n4, .int n5, .int n6, .long n7, .int n8, .int n9, .ref z10, .ref z11, .ref z12, .ref z13, .ref z14, .ref z15, .ref z16, .ref z17, .ref z18, .ref z19, .int n20, .int n21, .ref z22, .ref z23, .ref z24, .ref z25, .ref z26, .ref z27, .ref z28, .ref z29, .ref z30, .ref z31, .ref z32, .ref z33, .int n34, .long n35, .ref z36, .ref z37, .ref z38, .ref z39, .ref z40, .ref z41, .ref z42, .ref z43, .ref z44, .ref z45, .ref z46, .ref z47, .ref z48, .int n49, .int n50, .int n51, .int n52, .int n53, .int n54, .ref z55, .ref z56, .int n57, .int n58, .ref z59, .ref z60, .ref z61, .int n62, .long n63])), (z19, .inl (γ.2.1 0, 2000, .inl c_codes)), (z17, .inl (γ.2.1 0, 4, .inl c_lineFrom)), (z18, .inl (γ.2.1 0, 4, .inl c_lineTo)), (z10, .inl (γ.2.1 0, 10, .inl ((shP c_abbey 5 5)))), (z11, .inl (γ.2.1 1, 16, .inr (.inl ((shQ c_thoughtName 8 8))))), (z12, .inl (γ.2.1 1, 10, .inr (.inl ((shQ c_tenantName 5 5))))), (z13, .inl (γ.2.1 0, 16, .inl ((shP c_worthOf 8 8)))), (z14, .inl (γ.2.1 0, 16, .inl ((shP c_part 8 8)))), (z15, .inl (γ.2.1 0, 16, .inl ((shP c_behind 8 8)))), (z16, .inl (γ.2.1 0, 10, .inl ((shP c_kind 5 5))))] s H locs := hw
  refine W.eq (g2 := F0 m 60 ls []) rfl ?_
  refine lv_aload_n hx hb dX12_lays_60 rfl (lv_at hl 0 rfl) ?_
  refine fg_RX12_41 hC hw 0 rfl rfl dX12_lays_61 ?_
  refine lv_sipush (v := 1000) hx hb dX12_lays_64 (by decide) ?_
  refine k_S (wr := [(z, .inr (11, [.int n0, .int n1, .ref z2, .int n3, .int n4, .int n5, .int n6, .long n7, .int n8, .int n9, .ref z10, .ref z11, .ref z12, .ref z13, .ref z14, .ref z15, .ref z16, .ref z17, .ref z18, .ref z19, .int n20, .int n21, .ref z22, .ref z23, .ref z24, .ref z25, .ref z26, .ref z27, .ref z28, .ref z29, .ref z30, .ref z31, .ref z32, .ref z33, .int n34, .long n35, .ref z36, .ref z37, .ref z38, .ref z39, .ref z40, .ref z41, .ref z42, .ref z43, .ref z44, .ref z45, .ref z46, .ref z47, .ref z48, .int n49, .int n50, .int n51, .int n52, .int n53, .int n54, .ref z55, .ref z56, .int n57, .int n58, .ref z59, .ref z60, .ref z61, .int n62, .long n63])), (z17, .inl (γ.2.1 0, 4, .inl c_lineFrom)), (z18, .inl (γ.2.1 0, 4, .inl c_lineTo)), (z10, .inl (γ.2.1 0, 10, .inl ((shP c_abbey 5 5)))), (z11, .inl (γ.2.1 1, 16, .inr (.inl ((shQ c_thoughtName 8 8))))), (z12, .inl (γ.2.1 1, 10, .inr (.inl ((shQ c_tenantName 5 5))))), (z13, .inl (γ.2.1 0, 16, .inl ((shP c_worthOf 8 8)))), (z14, .inl (γ.2.1 0, 16, .inl ((shP c_part 8 8)))), (z15, .inl (γ.2.1 0, 16, .inl ((shP c_behind 8 8)))), (z16, .inl (γ.2.1 0, 10, .inl ((shP c_kind 5 5))))]) 2 gw_1519 gw_1520 gw_15 gw_1521 hd_X12_shifts hC hw (c_shP γ l z19 2000 c_codes 1000 (by decide) (by decide)) ⟨by decide, by decide⟩ ⟨by decide, by decide⟩ hl.1 rfl rfl (Nat.le_of_ble_eq_true rfl) [1] [0, 2, 3, 4, 5, 6, 7, 8, 9, 10] rfl rfl rfl rfl (by decide) dX12_lays_67 (fun r w1 H locs hq hw => ?_)
  obtain ⟨rfl, rfl⟩ := hq
  have hw : kW γ A [(z, .inr (11, [.int n0, .int n1, .ref z2, .int n3, .int n4, .int n5, .int n6, .long n7, .int n8, .int n9, .ref z10, .ref z11, .ref z12, .ref z13, .ref z14, .ref z15, .ref z16, .ref z17, .ref z18, .ref z19, .int n20, .int n21, .ref z22, .ref z23, .ref z24, .ref z25, .ref z26, .ref z27, .ref z28, .ref z29, .ref z30, .ref z31, .ref z32, .ref z33, .int n34, .long n35, .ref z36, .ref z37, .ref z38, .ref z39, .ref z40, .ref z41, .ref z42, .ref z43, .ref z44, .ref z45, .ref z46, .ref z47, .ref z48, .int n49, .int n50, .int n51, .int n52, .int n53, .int n54, .ref z55, .ref z56, .int n57, .int n58, .ref z59, .ref z60, .ref z61, .int n62, .long n63])), (z17, .inl (γ.2.1 0, 4, .inl c_lineFrom)), (z18, .inl (γ.2.1 0, 4, .inl c_lineTo)), (z10, .inl (γ.2.1 0, 10, .inl ((shP c_abbey 5 5)))), (z11, .inl (γ.2.1 1, 16, .inr (.inl ((shQ c_thoughtName 8 8))))), (z12, .inl (γ.2.1 1, 10, .inr (.inl ((shQ c_tenantName 5 5))))), (z13, .inl (γ.2.1 0, 16, .inl ((shP c_worthOf 8 8)))), (z14, .inl (γ.2.1 0, 16, .inl ((shP c_part 8 8)))), (z15, .inl (γ.2.1 0, 16, .inl ((shP c_behind 8 8)))), (z16, .inl (γ.2.1 0, 10, .inl ((shP c_kind 5 5)))), (z19, .inl (γ.2.1 0, 2000, .inl ((shP c_codes 1000 1000))))] s H locs := hw
  refine W.eq (g2 := F0 m 70 ls []) rfl ?_
  refine lv_iconst (v := 0) hx hb dX12_lays_70 (by decide) ?_
  refine lv_istore_n (lv' := [(1, .int 0), (0, .ref z)]) hx hb dX12_lays_71 rfl hl (by decide) rfl (fun ls hl => ?_)
  refine lv_iload_n hx hb dX12_lays_72 rfl (lv_at hl 0 rfl) ?_
  refine lv_iconst (v := 2) hx hb dX12_lays_73 (by decide) ?_
  refine lv_icmp_ge (tgt := 119) hx hb dX12_lays_74 (by decide) (fun h => absurd h (by decide)) (fun _ => ?_)
  refine lv_aload_n hx hb dX12_lays_77 rfl (lv_at hl 1 rfl) ?_
  refine fg_RX12_35 hC hw 0 rfl rfl dX12_lays_78 ?_
  refine lv_iload_n hx hb dX12_lays_81 rfl (lv_at hl 0 rfl) ?_
  refine lv_aload_n hx hb dX12_lays_82 rfl (lv_at hl 1 rfl) ?_
  refine fg_RX12_35 hC hw 0 rfl rfl dX12_lays_83 ?_
  refine lv_iconst (v := 2) hx hb dX12_lays_86 (by decide) ?_
  refine lv_iload_n hx hb dX12_lays_87 rfl (lv_at hl 0 rfl) ?_
  refine lv_iadd hx hb dX12_lays_88 ?_
  refine lv_topi (fun x_61 ex_61 => ?_)
  obtain rfl : x_61 = 2 := ex_61.trans (by decide)
  refine k_iald hC hw 1 rfl (k_in0 (by decide)) dX12_lays_89 ?_
  refine lv_topi (fun x_62 ex_62 => ?_)
  refine lv_sipush (v := 1000) hx hb dX12_lays_90 (by decide) ?_
  refine lv_isub hx hb dX12_lays_93 ?_
  refine k_iast hC hw 1 rfl (k_in0 (by decide)) dX12_lays_94 (fun H locs hw => ?_)
  obtain ⟨f_63, ef_63⟩ : ∃ g, g = upd c_lineFrom (0 : Int32).toNatClampNeg (x_62 - 1000) := ⟨_, rfl⟩
  have hw : kW γ A [(z, .inr (11, [.int n0, .int n1, .ref z2, .int n3, .int n4, .int n5, .int n6, .long n7, .int n8, .int n9, .ref z10, .ref z11, .ref z12, .ref z13, .ref z14, .ref z15, .ref z16, .ref z17, .ref z18, .ref z19, .int n20, .int n21, .ref z22, .ref z23, .ref z24, .ref z25, .ref z26, .ref z27, .ref z28, .ref z29, .ref z30, .ref z31, .ref z32, .ref z33, .int n34, .long n35, .ref z36, .ref z37, .ref z38, .ref z39, .ref z40, .ref z41, .ref z42, .ref z43, .ref z44, .ref z45, .ref z46, .ref z47, .ref z48, .int n49, .int n50, .int n51, .int n52, .int n53, .int n54, .ref z55, .ref z56, .int n57, .int n58, .ref z59, .ref z60, .ref z61, .int n62, .long n63])), (z17, .inl (γ.2.1 0, 4, .inl f_63)), (z18, .inl (γ.2.1 0, 4, .inl c_lineTo)), (z10, .inl (γ.2.1 0, 10, .inl ((shP c_abbey 5 5)))), (z11, .inl (γ.2.1 1, 16, .inr (.inl ((shQ c_thoughtName 8 8))))), (z12, .inl (γ.2.1 1, 10, .inr (.inl ((shQ c_tenantName 5 5))))), (z13, .inl (γ.2.1 0, 16, .inl ((shP c_worthOf 8 8)))), (z14, .inl (γ.2.1 0, 16, .inl ((shP c_part 8 8)))), (z15, .inl (γ.2.1 0, 16, .inl ((shP c_behind 8 8)))), (z16, .inl (γ.2.1 0, 10, .inl ((shP c_kind 5 5)))), (z19, .inl (γ.2.1 0, 2000, .inl ((shP c_codes 1000 1000))))] s H locs := by rw [ef_63]; exact hw
  have h_64 : f_63 0 = (x_62 - 1000) := by rw [ef_63]; rfl
  refine lv_aload_n hx hb dX12_lays_95 rfl (lv_at hl 1 rfl) ?_
  refine fg_RX12_38 hC hw 0 rfl rfl dX12_lays_96 ?_
  refine lv_iload_n hx hb dX12_lays_99 rfl (lv_at hl 0 rfl) ?_
  refine lv_aload_n hx hb dX12_lays_100 rfl (lv_at hl 1 rfl) ?_
  refine fg_RX12_38 hC hw 0 rfl rfl dX12_lays_101 ?_
  refine lv_iconst (v := 2) hx hb dX12_lays_104 (by decide) ?_
  refine lv_iload_n hx hb dX12_lays_105 rfl (lv_at hl 0 rfl) ?_
  refine lv_iadd hx hb dX12_lays_106 ?_
  refine lv_topi (fun x_65 ex_65 => ?_)
  obtain rfl : x_65 = 2 := ex_65.trans (by decide)
  refine k_iald hC hw 2 rfl (k_in0 (by decide)) dX12_lays_107 ?_
  refine lv_topi (fun x_66 ex_66 => ?_)
  refine lv_sipush (v := 1000) hx hb dX12_lays_108 (by decide) ?_
  refine lv_isub hx hb dX12_lays_111 ?_
  refine k_iast hC hw 2 rfl (k_in0 (by decide)) dX12_lays_112 (fun H locs hw => ?_)
  obtain ⟨f_67, ef_67⟩ : ∃ g, g = upd c_lineTo (0 : Int32).toNatClampNeg (x_66 - 1000) := ⟨_, rfl⟩
  have hw : kW γ A [(z, .inr (11, [.int n0, .int n1, .ref z2, .int n3, .int n4, .int n5, .int n6, .long n7, .int n8, .int n9, .ref z10, .ref z11, .ref z12, .ref z13, .ref z14, .ref z15, .ref z16, .ref z17, .ref z18, .ref z19, .int n20, .int n21, .ref z22, .ref z23, .ref z24, .ref z25, .ref z26, .ref z27, .ref z28, .ref z29, .ref z30, .ref z31, .ref z32, .ref z33, .int n34, .long n35, .ref z36, .ref z37, .ref z38, .ref z39, .ref z40, .ref z41, .ref z42, .ref z43, .ref z44, .ref z45, .ref z46, .ref z47, .ref z48, .int n49, .int n50, .int n51, .int n52, .int n53, .int n54, .ref z55, .ref z56, .int n57, .int n58, .ref z59, .ref z60, .ref z61, .int n62, .long n63])), (z17, .inl (γ.2.1 0, 4, .inl f_63)), (z18, .inl (γ.2.1 0, 4, .inl f_67)), (z10, .inl (γ.2.1 0, 10, .inl ((shP c_abbey 5 5)))), (z11, .inl (γ.2.1 1, 16, .inr (.inl ((shQ c_thoughtName 8 8))))), (z12, .inl (γ.2.1 1, 10, .inr (.inl ((shQ c_tenantName 5 5))))), (z13, .inl (γ.2.1 0, 16, .inl ((shP c_worthOf 8 8)))), (z14, .inl (γ.2.1 0, 16, .inl ((shP c_part 8 8)))), (z15, .inl (γ.2.1 0, 16, .inl ((shP c_behind 8 8)))), (z16, .inl (γ.2.1 0, 10, .inl ((shP c_kind 5 5)))), (z19, .inl (γ.2.1 0, 2000, .inl ((shP c_codes 1000 1000))))] s H locs := by rw [ef_67]; exact hw
  have h_68 : f_67 0 = (x_66 - 1000) := by rw [ef_67]; rfl
  refine lv_iinc (v := 1) (lv' := [(1, .int 1), (0, .ref z)]) hx hb dX12_lays_113 hl (k := 0) rfl (by decide) (by decide) rfl (fun ls hl => ?_)
  refine lv_goto (tgt := 72) hx hb dX12_lays_116 (by decide) ?_
  refine lv_iload_n hx hb dX12_lays_72 rfl (lv_at hl 0 rfl) ?_
  refine lv_iconst (v := 2) hx hb dX12_lays_73 (by decide) ?_
  refine lv_icmp_ge (tgt := 119) hx hb dX12_lays_74 (by decide) (fun h => absurd h (by decide)) (fun _ => ?_)
  refine lv_aload_n hx hb dX12_lays_77 rfl (lv_at hl 1 rfl) ?_
  refine fg_RX12_35 hC hw 0 rfl rfl dX12_lays_78 ?_
  refine lv_iload_n hx hb dX12_lays_81 rfl (lv_at hl 0 rfl) ?_
  refine lv_aload_n hx hb dX12_lays_82 rfl (lv_at hl 1 rfl) ?_
  refine fg_RX12_35 hC hw 0 rfl rfl dX12_lays_83 ?_
  refine lv_iconst (v := 2) hx hb dX12_lays_86 (by decide) ?_
  refine lv_iload_n hx hb dX12_lays_87 rfl (lv_at hl 0 rfl) ?_
  refine lv_iadd hx hb dX12_lays_88 ?_
  refine lv_topi (fun x_69 ex_69 => ?_)
  obtain rfl : x_69 = 3 := ex_69.trans (by decide)
  refine k_iald hC hw 1 rfl (k_in0 (by decide)) dX12_lays_89 ?_
  refine lv_topi (fun x_70 ex_70 => ?_)
  refine lv_sipush (v := 1000) hx hb dX12_lays_90 (by decide) ?_
  refine lv_isub hx hb dX12_lays_93 ?_
  refine k_iast hC hw 1 rfl (k_in0 (by decide)) dX12_lays_94 (fun H locs hw => ?_)
  obtain ⟨f_71, ef_71⟩ : ∃ g, g = upd f_63 (1 : Int32).toNatClampNeg (x_70 - 1000) := ⟨_, rfl⟩
  have hw : kW γ A [(z, .inr (11, [.int n0, .int n1, .ref z2, .int n3, .int n4, .int n5, .int n6, .long n7, .int n8, .int n9, .ref z10, .ref z11, .ref z12, .ref z13, .ref z14, .ref z15, .ref z16, .ref z17, .ref z18, .ref z19, .int n20, .int n21, .ref z22, .ref z23, .ref z24, .ref z25, .ref z26, .ref z27, .ref z28, .ref z29, .ref z30, .ref z31, .ref z32, .ref z33, .int n34, .long n35, .ref z36, .ref z37, .ref z38, .ref z39, .ref z40, .ref z41, .ref z42, .ref z43, .ref z44, .ref z45, .ref z46, .ref z47, .ref z48, .int n49, .int n50, .int n51, .int n52, .int n53, .int n54, .ref z55, .ref z56, .int n57, .int n58, .ref z59, .ref z60, .ref z61, .int n62, .long n63])), (z17, .inl (γ.2.1 0, 4, .inl f_71)), (z18, .inl (γ.2.1 0, 4, .inl f_67)), (z10, .inl (γ.2.1 0, 10, .inl ((shP c_abbey 5 5)))), (z11, .inl (γ.2.1 1, 16, .inr (.inl ((shQ c_thoughtName 8 8))))), (z12, .inl (γ.2.1 1, 10, .inr (.inl ((shQ c_tenantName 5 5))))), (z13, .inl (γ.2.1 0, 16, .inl ((shP c_worthOf 8 8)))), (z14, .inl (γ.2.1 0, 16, .inl ((shP c_part 8 8)))), (z15, .inl (γ.2.1 0, 16, .inl ((shP c_behind 8 8)))), (z16, .inl (γ.2.1 0, 10, .inl ((shP c_kind 5 5)))), (z19, .inl (γ.2.1 0, 2000, .inl ((shP c_codes 1000 1000))))] s H locs := by rw [ef_71]; exact hw
  have h_72 : f_71 0 = (x_62 - 1000) := by rw [ef_71]; exact h_64
  have h_73 : f_71 1 = (x_70 - 1000) := by rw [ef_71]; rfl
  refine lv_aload_n hx hb dX12_lays_95 rfl (lv_at hl 1 rfl) ?_
  refine fg_RX12_38 hC hw 0 rfl rfl dX12_lays_96 ?_
  refine lv_iload_n hx hb dX12_lays_99 rfl (lv_at hl 0 rfl) ?_
  refine lv_aload_n hx hb dX12_lays_100 rfl (lv_at hl 1 rfl) ?_
  refine fg_RX12_38 hC hw 0 rfl rfl dX12_lays_101 ?_
  refine lv_iconst (v := 2) hx hb dX12_lays_104 (by decide) ?_
  refine lv_iload_n hx hb dX12_lays_105 rfl (lv_at hl 0 rfl) ?_
  refine lv_iadd hx hb dX12_lays_106 ?_
  refine lv_topi (fun x_74 ex_74 => ?_)
  obtain rfl : x_74 = 3 := ex_74.trans (by decide)
  refine k_iald hC hw 2 rfl (k_in0 (by decide)) dX12_lays_107 ?_
  refine lv_topi (fun x_75 ex_75 => ?_)
  refine lv_sipush (v := 1000) hx hb dX12_lays_108 (by decide) ?_
  refine lv_isub hx hb dX12_lays_111 ?_
  refine k_iast hC hw 2 rfl (k_in0 (by decide)) dX12_lays_112 (fun H locs hw => ?_)
  obtain ⟨f_76, ef_76⟩ : ∃ g, g = upd f_67 (1 : Int32).toNatClampNeg (x_75 - 1000) := ⟨_, rfl⟩
  have hw : kW γ A [(z, .inr (11, [.int n0, .int n1, .ref z2, .int n3, .int n4, .int n5, .int n6, .long n7, .int n8, .int n9, .ref z10, .ref z11, .ref z12, .ref z13, .ref z14, .ref z15, .ref z16, .ref z17, .ref z18, .ref z19, .int n20, .int n21, .ref z22, .ref z23, .ref z24, .ref z25, .ref z26, .ref z27, .ref z28, .ref z29, .ref z30, .ref z31, .ref z32, .ref z33, .int n34, .long n35, .ref z36, .ref z37, .ref z38, .ref z39, .ref z40, .ref z41, .ref z42, .ref z43, .ref z44, .ref z45, .ref z46, .ref z47, .ref z48, .int n49, .int n50, .int n51, .int n52, .int n53, .int n54, .ref z55, .ref z56, .int n57, .int n58, .ref z59, .ref z60, .ref z61, .int n62, .long n63])), (z17, .inl (γ.2.1 0, 4, .inl f_71)), (z18, .inl (γ.2.1 0, 4, .inl f_76)), (z10, .inl (γ.2.1 0, 10, .inl ((shP c_abbey 5 5)))), (z11, .inl (γ.2.1 1, 16, .inr (.inl ((shQ c_thoughtName 8 8))))), (z12, .inl (γ.2.1 1, 10, .inr (.inl ((shQ c_tenantName 5 5))))), (z13, .inl (γ.2.1 0, 16, .inl ((shP c_worthOf 8 8)))), (z14, .inl (γ.2.1 0, 16, .inl ((shP c_part 8 8)))), (z15, .inl (γ.2.1 0, 16, .inl ((shP c_behind 8 8)))), (z16, .inl (γ.2.1 0, 10, .inl ((shP c_kind 5 5)))), (z19, .inl (γ.2.1 0, 2000, .inl ((shP c_codes 1000 1000))))] s H locs := by rw [ef_76]; exact hw
  have h_77 : f_76 0 = (x_66 - 1000) := by rw [ef_76]; exact h_68
  have h_78 : f_76 1 = (x_75 - 1000) := by rw [ef_76]; rfl
  refine lv_iinc (v := 2) (lv' := [(1, .int 2), (0, .ref z)]) hx hb dX12_lays_113 hl (k := 0) rfl (by decide) (by decide) rfl (fun ls hl => ?_)
  refine lv_goto (tgt := 72) hx hb dX12_lays_116 (by decide) ?_
  refine lv_iload_n hx hb dX12_lays_72 rfl (lv_at hl 0 rfl) ?_
  refine lv_iconst (v := 2) hx hb dX12_lays_73 (by decide) ?_
  refine lv_icmp_ge (tgt := 119) hx hb dX12_lays_74 (by decide) (fun _ => ?_) (fun h => absurd (by decide) h)
  exact k_vret hC hr hlocks hw [0, 3, 4, 5, 6, 7, 8, 9, 10, 1, 2] rfl rfl ⟨f_71, f_76, rfl, rfl⟩ (by decide) (by decide) dX12_lays_119


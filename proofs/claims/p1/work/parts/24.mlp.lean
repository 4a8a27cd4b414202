theorem dX12_shifts_0 : decode cX12_shifts 0 = .ok (.iconst 0, 1) := by decide +kernel
theorem dX12_shifts_1 : decode cX12_shifts 1 = .ok (.istore_n 2, 1) := by decide +kernel
theorem dX12_shifts_2 : decode cX12_shifts 2 = .ok (.iload_n 2, 1) := by decide +kernel
theorem dX12_shifts_3 : decode cX12_shifts 3 = .ok (.iload_n 1, 1) := by decide +kernel
theorem dX12_shifts_4 : decode cX12_shifts 4 = .ok (.if_icmp .ge 17, 3) := by decide +kernel
theorem dX12_shifts_7 : decode cX12_shifts 7 = .ok (.aload_n 0, 1) := by decide +kernel
theorem dX12_shifts_8 : decode cX12_shifts 8 = .ok (.iload_n 2, 1) := by decide +kernel
theorem dX12_shifts_9 : decode cX12_shifts 9 = .ok (.aload_n 0, 1) := by decide +kernel
theorem dX12_shifts_10 : decode cX12_shifts 10 = .ok (.iload_n 1, 1) := by decide +kernel
theorem dX12_shifts_11 : decode cX12_shifts 11 = .ok (.iload_n 2, 1) := by decide +kernel
theorem dX12_shifts_12 : decode cX12_shifts 12 = .ok (.iadd, 1) := by decide +kernel
theorem dX12_shifts_13 : decode cX12_shifts 13 = .ok (.iaload, 1) := by decide +kernel
theorem dX12_shifts_14 : decode cX12_shifts 14 = .ok (.iastore, 1) := by decide +kernel
theorem dX12_shifts_15 : decode cX12_shifts 15 = .ok (.iinc 2 1, 3) := by decide +kernel
theorem dX12_shifts_18 : decode cX12_shifts 18 = .ok (.goto (-16), 3) := by decide +kernel
theorem dX12_shifts_21 : decode cX12_shifts 21 = .ok (.return_, 1) := by decide +kernel
theorem dX12_shiftsNames_0 : decode cX12_shiftsNames 0 = .ok (.iconst 0, 1) := by decide +kernel
theorem dX12_shiftsNames_1 : decode cX12_shiftsNames 1 = .ok (.istore_n 2, 1) := by decide +kernel
theorem dX12_shiftsNames_2 : decode cX12_shiftsNames 2 = .ok (.iload_n 2, 1) := by decide +kernel
theorem dX12_shiftsNames_3 : decode cX12_shiftsNames 3 = .ok (.iload_n 1, 1) := by decide +kernel
theorem dX12_shiftsNames_4 : decode cX12_shiftsNames 4 = .ok (.if_icmp .ge 17, 3) := by decide +kernel
theorem dX12_shiftsNames_7 : decode cX12_shiftsNames 7 = .ok (.aload_n 0, 1) := by decide +kernel
theorem dX12_shiftsNames_8 : decode cX12_shiftsNames 8 = .ok (.iload_n 2, 1) := by decide +kernel
theorem dX12_shiftsNames_9 : decode cX12_shiftsNames 9 = .ok (.aload_n 0, 1) := by decide +kernel
theorem dX12_shiftsNames_10 : decode cX12_shiftsNames 10 = .ok (.iload_n 1, 1) := by decide +kernel
theorem dX12_shiftsNames_11 : decode cX12_shiftsNames 11 = .ok (.iload_n 2, 1) := by decide +kernel
theorem dX12_shiftsNames_12 : decode cX12_shiftsNames 12 = .ok (.iadd, 1) := by decide +kernel
theorem dX12_shiftsNames_13 : decode cX12_shiftsNames 13 = .ok (.laload, 1) := by decide +kernel
theorem dX12_shiftsNames_14 : decode cX12_shiftsNames 14 = .ok (.lastore, 1) := by decide +kernel
theorem dX12_shiftsNames_15 : decode cX12_shiftsNames 15 = .ok (.iinc 2 1, 3) := by decide +kernel
theorem dX12_shiftsNames_18 : decode cX12_shiftsNames 18 = .ok (.goto (-16), 3) := by decide +kernel
theorem dX12_shiftsNames_21 : decode cX12_shiftsNames 21 = .ok (.return_, 1) := by decide +kernel
theorem dX12_copies_0 : decode cX12_copies 0 = .ok (.iconst 0, 1) := by decide +kernel
theorem dX12_copies_1 : decode cX12_copies 1 = .ok (.istore 4, 2) := by decide +kernel
theorem dX12_copies_3 : decode cX12_copies 3 = .ok (.iload 4, 2) := by decide +kernel
theorem dX12_copies_5 : decode cX12_copies 5 = .ok (.sipush 133, 3) := by decide +kernel
theorem dX12_copies_8 : decode cX12_copies 8 = .ok (.if_icmp .ge 21, 3) := by decide +kernel
theorem dX12_copies_11 : decode cX12_copies 11 = .ok (.aload_n 2, 1) := by decide +kernel
theorem dX12_copies_12 : decode cX12_copies 12 = .ok (.iload_n 3, 1) := by decide +kernel
theorem dX12_copies_13 : decode cX12_copies 13 = .ok (.iload 4, 2) := by decide +kernel
theorem dX12_copies_15 : decode cX12_copies 15 = .ok (.iadd, 1) := by decide +kernel
theorem dX12_copies_16 : decode cX12_copies 16 = .ok (.aload_n 0, 1) := by decide +kernel
theorem dX12_copies_17 : decode cX12_copies 17 = .ok (.iload_n 1, 1) := by decide +kernel
theorem dX12_copies_18 : decode cX12_copies 18 = .ok (.iload 4, 2) := by decide +kernel
theorem dX12_copies_20 : decode cX12_copies 20 = .ok (.iadd, 1) := by decide +kernel
theorem dX12_copies_21 : decode cX12_copies 21 = .ok (.iaload, 1) := by decide +kernel
theorem dX12_copies_22 : decode cX12_copies 22 = .ok (.iastore, 1) := by decide +kernel
theorem dX12_copies_23 : decode cX12_copies 23 = .ok (.iinc 4 1, 3) := by decide +kernel
theorem dX12_copies_26 : decode cX12_copies 26 = .ok (.goto (-23), 3) := by decide +kernel
theorem dX12_copies_29 : decode cX12_copies 29 = .ok (.return_, 1) := by decide +kernel
theorem dX12_fresh_0 : decode cX12_fresh 0 = .ok (.iconst 0, 1) := by decide +kernel
theorem dX12_fresh_1 : decode cX12_fresh 1 = .ok (.istore_n 1, 1) := by decide +kernel
theorem dX12_fresh_2 : decode cX12_fresh 2 = .ok (.iload_n 1, 1) := by decide +kernel
theorem dX12_fresh_3 : decode cX12_fresh 3 = .ok (.sipush 133, 3) := by decide +kernel
theorem dX12_fresh_6 : decode cX12_fresh 6 = .ok (.if_icmp .ge 16, 3) := by decide +kernel
theorem dX12_fresh_9 : decode cX12_fresh 9 = .ok (.aload_n 0, 1) := by decide +kernel
theorem dX12_fresh_10 : decode cX12_fresh 10 = .ok (.getfield 102, 3) := by decide +kernel
theorem dX12_fresh_13 : decode cX12_fresh 13 = .ok (.iload_n 1, 1) := by decide +kernel
theorem dX12_fresh_14 : decode cX12_fresh 14 = .ok (.iconst 0, 1) := by decide +kernel
theorem dX12_fresh_15 : decode cX12_fresh 15 = .ok (.iastore, 1) := by decide +kernel
theorem dX12_fresh_16 : decode cX12_fresh 16 = .ok (.iinc 1 1, 3) := by decide +kernel
theorem dX12_fresh_19 : decode cX12_fresh 19 = .ok (.goto (-17), 3) := by decide +kernel
theorem dX12_fresh_22 : decode cX12_fresh 22 = .ok (.return_, 1) := by decide +kernel
theorem dX12_laysLines_0 : decode cX12_laysLines 0 = .ok (.aload_n 0, 1) := by decide +kernel
theorem dX12_laysLines_1 : decode cX12_laysLines 1 = .ok (.getfield 81, 3) := by decide +kernel
theorem dX12_laysLines_4 : decode cX12_laysLines 4 = .ok (.iload_n 2, 1) := by decide +kernel
theorem dX12_laysLines_5 : decode cX12_laysLines 5 = .ok (.aload_n 0, 1) := by decide +kernel
theorem dX12_laysLines_6 : decode cX12_laysLines 6 = .ok (.getfield 81, 3) := by decide +kernel
theorem dX12_laysLines_9 : decode cX12_laysLines 9 = .ok (.iload_n 1, 1) := by decide +kernel
theorem dX12_laysLines_10 : decode cX12_laysLines 10 = .ok (.iaload, 1) := by decide +kernel
theorem dX12_laysLines_11 : decode cX12_laysLines 11 = .ok (.iastore, 1) := by decide +kernel
theorem dX12_laysLines_12 : decode cX12_laysLines 12 = .ok (.iconst 0, 1) := by decide +kernel
theorem dX12_laysLines_13 : decode cX12_laysLines 13 = .ok (.istore_n 3, 1) := by decide +kernel
theorem dX12_laysLines_14 : decode cX12_laysLines 14 = .ok (.iload_n 3, 1) := by decide +kernel
theorem dX12_laysLines_15 : decode cX12_laysLines 15 = .ok (.bipush 40, 2) := by decide +kernel
theorem dX12_laysLines_17 : decode cX12_laysLines 17 = .ok (.if_icmp .ge 75, 3) := by decide +kernel
theorem dX12_laysLines_20 : decode cX12_laysLines 20 = .ok (.aload_n 0, 1) := by decide +kernel
theorem dX12_laysLines_21 : decode cX12_laysLines 21 = .ok (.getfield 84, 3) := by decide +kernel
theorem dX12_laysLines_24 : decode cX12_laysLines 24 = .ok (.bipush 40, 2) := by decide +kernel
theorem dX12_laysLines_26 : decode cX12_laysLines 26 = .ok (.iload_n 2, 1) := by decide +kernel
theorem dX12_laysLines_27 : decode cX12_laysLines 27 = .ok (.imul, 1) := by decide +kernel
theorem dX12_laysLines_28 : decode cX12_laysLines 28 = .ok (.iload_n 3, 1) := by decide +kernel
theorem dX12_laysLines_29 : decode cX12_laysLines 29 = .ok (.iadd, 1) := by decide +kernel
theorem dX12_laysLines_30 : decode cX12_laysLines 30 = .ok (.aload_n 0, 1) := by decide +kernel
theorem dX12_laysLines_31 : decode cX12_laysLines 31 = .ok (.getfield 84, 3) := by decide +kernel
theorem dX12_laysLines_34 : decode cX12_laysLines 34 = .ok (.bipush 40, 2) := by decide +kernel
theorem dX12_laysLines_36 : decode cX12_laysLines 36 = .ok (.iload_n 1, 1) := by decide +kernel
theorem dX12_laysLines_37 : decode cX12_laysLines 37 = .ok (.imul, 1) := by decide +kernel
theorem dX12_laysLines_38 : decode cX12_laysLines 38 = .ok (.iload_n 3, 1) := by decide +kernel
theorem dX12_laysLines_39 : decode cX12_laysLines 39 = .ok (.iadd, 1) := by decide +kernel
theorem dX12_laysLines_40 : decode cX12_laysLines 40 = .ok (.iaload, 1) := by decide +kernel
theorem dX12_laysLines_41 : decode cX12_laysLines 41 = .ok (.iastore, 1) := by decide +kernel
theorem dX12_laysLines_42 : decode cX12_laysLines 42 = .ok (.aload_n 0, 1) := by decide +kernel
theorem dX12_laysLines_43 : decode cX12_laysLines 43 = .ok (.getfield 87, 3) := by decide +kernel
theorem dX12_laysLines_46 : decode cX12_laysLines 46 = .ok (.bipush 40, 2) := by decide +kernel
theorem dX12_laysLines_48 : decode cX12_laysLines 48 = .ok (.iload_n 2, 1) := by decide +kernel
theorem dX12_laysLines_49 : decode cX12_laysLines 49 = .ok (.imul, 1) := by decide +kernel
theorem dX12_laysLines_50 : decode cX12_laysLines 50 = .ok (.iload_n 3, 1) := by decide +kernel
theorem dX12_laysLines_51 : decode cX12_laysLines 51 = .ok (.iadd, 1) := by decide +kernel
theorem dX12_laysLines_52 : decode cX12_laysLines 52 = .ok (.aload_n 0, 1) := by decide +kernel
theorem dX12_laysLines_53 : decode cX12_laysLines 53 = .ok (.getfield 87, 3) := by decide +kernel
theorem dX12_laysLines_56 : decode cX12_laysLines 56 = .ok (.bipush 40, 2) := by decide +kernel
theorem dX12_laysLines_58 : decode cX12_laysLines 58 = .ok (.iload_n 1, 1) := by decide +kernel
theorem dX12_laysLines_59 : decode cX12_laysLines 59 = .ok (.imul, 1) := by decide +kernel
theorem dX12_laysLines_60 : decode cX12_laysLines 60 = .ok (.iload_n 3, 1) := by decide +kernel
theorem dX12_laysLines_61 : decode cX12_laysLines 61 = .ok (.iadd, 1) := by decide +kernel
theorem dX12_laysLines_62 : decode cX12_laysLines 62 = .ok (.iaload, 1) := by decide +kernel
theorem dX12_laysLines_63 : decode cX12_laysLines 63 = .ok (.iastore, 1) := by decide +kernel
theorem dX12_laysLines_64 : decode cX12_laysLines 64 = .ok (.aload_n 0, 1) := by decide +kernel
theorem dX12_laysLines_65 : decode cX12_laysLines 65 = .ok (.getfield 90, 3) := by decide +kernel
theorem dX12_laysLines_68 : decode cX12_laysLines 68 = .ok (.bipush 40, 2) := by decide +kernel
theorem dX12_laysLines_70 : decode cX12_laysLines 70 = .ok (.iload_n 2, 1) := by decide +kernel
theorem dX12_laysLines_71 : decode cX12_laysLines 71 = .ok (.imul, 1) := by decide +kernel
theorem dX12_laysLines_72 : decode cX12_laysLines 72 = .ok (.iload_n 3, 1) := by decide +kernel
theorem dX12_laysLines_73 : decode cX12_laysLines 73 = .ok (.iadd, 1) := by decide +kernel
theorem dX12_laysLines_74 : decode cX12_laysLines 74 = .ok (.aload_n 0, 1) := by decide +kernel
theorem dX12_laysLines_75 : decode cX12_laysLines 75 = .ok (.getfield 90, 3) := by decide +kernel
theorem dX12_laysLines_78 : decode cX12_laysLines 78 = .ok (.bipush 40, 2) := by decide +kernel
theorem dX12_laysLines_80 : decode cX12_laysLines 80 = .ok (.iload_n 1, 1) := by decide +kernel
theorem dX12_laysLines_81 : decode cX12_laysLines 81 = .ok (.imul, 1) := by decide +kernel
theorem dX12_laysLines_82 : decode cX12_laysLines 82 = .ok (.iload_n 3, 1) := by decide +kernel
theorem dX12_laysLines_83 : decode cX12_laysLines 83 = .ok (.iadd, 1) := by decide +kernel
theorem dX12_laysLines_84 : decode cX12_laysLines 84 = .ok (.iaload, 1) := by decide +kernel
theorem dX12_laysLines_85 : decode cX12_laysLines 85 = .ok (.iastore, 1) := by decide +kernel
theorem dX12_laysLines_86 : decode cX12_laysLines 86 = .ok (.iinc 3 1, 3) := by decide +kernel
theorem dX12_laysLines_89 : decode cX12_laysLines 89 = .ok (.goto (-75), 3) := by decide +kernel
theorem dX12_laysLines_92 : decode cX12_laysLines 92 = .ok (.return_, 1) := by decide +kernel
theorem dX12_laysGuesses_0 : decode cX12_laysGuesses 0 = .ok (.aload_n 0, 1) := by decide +kernel
theorem dX12_laysGuesses_1 : decode cX12_laysGuesses 1 = .ok (.getfield 93, 3) := by decide +kernel
theorem dX12_laysGuesses_4 : decode cX12_laysGuesses 4 = .ok (.iload_n 2, 1) := by decide +kernel
theorem dX12_laysGuesses_5 : decode cX12_laysGuesses 5 = .ok (.aload_n 0, 1) := by decide +kernel
theorem dX12_laysGuesses_6 : decode cX12_laysGuesses 6 = .ok (.getfield 93, 3) := by decide +kernel
theorem dX12_laysGuesses_9 : decode cX12_laysGuesses 9 = .ok (.iload_n 1, 1) := by decide +kernel
theorem dX12_laysGuesses_10 : decode cX12_laysGuesses 10 = .ok (.iaload, 1) := by decide +kernel
theorem dX12_laysGuesses_11 : decode cX12_laysGuesses 11 = .ok (.iastore, 1) := by decide +kernel
theorem dX12_laysGuesses_12 : decode cX12_laysGuesses 12 = .ok (.iconst 0, 1) := by decide +kernel
theorem dX12_laysGuesses_13 : decode cX12_laysGuesses 13 = .ok (.istore_n 3, 1) := by decide +kernel
theorem dX12_laysGuesses_14 : decode cX12_laysGuesses 14 = .ok (.iload_n 3, 1) := by decide +kernel
theorem dX12_laysGuesses_15 : decode cX12_laysGuesses 15 = .ok (.bipush 8, 2) := by decide +kernel
theorem dX12_laysGuesses_17 : decode cX12_laysGuesses 17 = .ok (.if_icmp .ge 53, 3) := by decide +kernel
theorem dX12_laysGuesses_20 : decode cX12_laysGuesses 20 = .ok (.aload_n 0, 1) := by decide +kernel
theorem dX12_laysGuesses_21 : decode cX12_laysGuesses 21 = .ok (.getfield 96, 3) := by decide +kernel
theorem dX12_laysGuesses_24 : decode cX12_laysGuesses 24 = .ok (.bipush 8, 2) := by decide +kernel
theorem dX12_laysGuesses_26 : decode cX12_laysGuesses 26 = .ok (.iload_n 2, 1) := by decide +kernel
theorem dX12_laysGuesses_27 : decode cX12_laysGuesses 27 = .ok (.imul, 1) := by decide +kernel
theorem dX12_laysGuesses_28 : decode cX12_laysGuesses 28 = .ok (.iload_n 3, 1) := by decide +kernel
theorem dX12_laysGuesses_29 : decode cX12_laysGuesses 29 = .ok (.iadd, 1) := by decide +kernel
theorem dX12_laysGuesses_30 : decode cX12_laysGuesses 30 = .ok (.aload_n 0, 1) := by decide +kernel
theorem dX12_laysGuesses_31 : decode cX12_laysGuesses 31 = .ok (.getfield 96, 3) := by decide +kernel
theorem dX12_laysGuesses_34 : decode cX12_laysGuesses 34 = .ok (.bipush 8, 2) := by decide +kernel
theorem dX12_laysGuesses_36 : decode cX12_laysGuesses 36 = .ok (.iload_n 1, 1) := by decide +kernel
theorem dX12_laysGuesses_37 : decode cX12_laysGuesses 37 = .ok (.imul, 1) := by decide +kernel
theorem dX12_laysGuesses_38 : decode cX12_laysGuesses 38 = .ok (.iload_n 3, 1) := by decide +kernel
theorem dX12_laysGuesses_39 : decode cX12_laysGuesses 39 = .ok (.iadd, 1) := by decide +kernel
theorem dX12_laysGuesses_40 : decode cX12_laysGuesses 40 = .ok (.iaload, 1) := by decide +kernel
theorem dX12_laysGuesses_41 : decode cX12_laysGuesses 41 = .ok (.iastore, 1) := by decide +kernel
theorem dX12_laysGuesses_42 : decode cX12_laysGuesses 42 = .ok (.aload_n 0, 1) := by decide +kernel
theorem dX12_laysGuesses_43 : decode cX12_laysGuesses 43 = .ok (.getfield 99, 3) := by decide +kernel
theorem dX12_laysGuesses_46 : decode cX12_laysGuesses 46 = .ok (.bipush 8, 2) := by decide +kernel
theorem dX12_laysGuesses_48 : decode cX12_laysGuesses 48 = .ok (.iload_n 2, 1) := by decide +kernel
theorem dX12_laysGuesses_49 : decode cX12_laysGuesses 49 = .ok (.imul, 1) := by decide +kernel
theorem dX12_laysGuesses_50 : decode cX12_laysGuesses 50 = .ok (.iload_n 3, 1) := by decide +kernel
theorem dX12_laysGuesses_51 : decode cX12_laysGuesses 51 = .ok (.iadd, 1) := by decide +kernel
theorem dX12_laysGuesses_52 : decode cX12_laysGuesses 52 = .ok (.aload_n 0, 1) := by decide +kernel
theorem dX12_laysGuesses_53 : decode cX12_laysGuesses 53 = .ok (.getfield 99, 3) := by decide +kernel
theorem dX12_laysGuesses_56 : decode cX12_laysGuesses 56 = .ok (.bipush 8, 2) := by decide +kernel
theorem dX12_laysGuesses_58 : decode cX12_laysGuesses 58 = .ok (.iload_n 1, 1) := by decide +kernel
theorem dX12_laysGuesses_59 : decode cX12_laysGuesses 59 = .ok (.imul, 1) := by decide +kernel
theorem dX12_laysGuesses_60 : decode cX12_laysGuesses 60 = .ok (.iload_n 3, 1) := by decide +kernel
theorem dX12_laysGuesses_61 : decode cX12_laysGuesses 61 = .ok (.iadd, 1) := by decide +kernel
theorem dX12_laysGuesses_62 : decode cX12_laysGuesses 62 = .ok (.baload, 1) := by decide +kernel
theorem dX12_laysGuesses_63 : decode cX12_laysGuesses 63 = .ok (.bastore, 1) := by decide +kernel
theorem dX12_laysGuesses_64 : decode cX12_laysGuesses 64 = .ok (.iinc 3 1, 3) := by decide +kernel
theorem dX12_laysGuesses_67 : decode cX12_laysGuesses 67 = .ok (.goto (-53), 3) := by decide +kernel
theorem dX12_laysGuesses_70 : decode cX12_laysGuesses 70 = .ok (.return_, 1) := by decide +kernel
set_option maxHeartbeats 4000000 in
set_option maxRecDepth 100000 in
theorem lp_shifts {γ : kΓ} {l : Launch} {p : Program} {e : Env} {s : State} {m : MethodId} {below : List Frame} {meth : Method} {c : Code} {A : Nat → Prop} (a : Nat) (N : Nat) (n : Nat) (hN : n + n ≤ N) (hb9 : N < 2 ^ 31) (hC : kC γ p s m [.ref a, .int (nI n)].toArray c cX12_shifts 3 RX12 A) (hr : meth.sig.returnType = none) (hlocks : meth.locks = false) : ∀ (k : Nat) (i : Nat) (f : Nat → Int32), n - i < k → (i ≤ n) → ∀ (H : Heap) (locs : List Loc), kW γ A [(a, .inl (γ.2.1 0, N, .inl f))] s H locs → ∀ ls : Array Slot, lv_has ls 3 [(2, .int (nI i)), (0, .ref a), (1, .int (nI n))] → W p l e ({ frames := 0, cells := 0, slots := 0, locals := 0 } : Room) s m [.ref a, .int (nI n)].toArray below meth c H locs 0 0 (MQ below (kQ γ A (fun r w1 => ∃ (f9 : Nat → Int32), r = none ∧ w1 = [(a, .inl (γ.2.1 0, N, .inl f9))])) [.ref a, .int (nI n)].toArray s 0 0 A) (F0 m 2 ls []) := by
  have hx := hC.1
  have hb := hC.2.1
  intro k
  induction k with
  | zero => intro i f hk; exact absurd hk (Nat.not_lt_zero _)
  | succ k ih =>
    intro i f hk hi H locs hw ls hl
    refine lv_iload_n hx hb dX12_shifts_2 rfl (lv_at hl 0 rfl) ?_
    refine lv_iload_n hx hb dX12_shifts_3 rfl (lv_at hl 2 rfl) ?_
    refine lv_icmp_ge (tgt := 21) hx hb dX12_shifts_4 (by decide) (fun c1 => ?_) (fun c1 => ?_)
    · have hi9 : i = n := by have h9 := (nI_leI (a := n) (b := i) (by omega) (by omega)).mp c1; omega
      exact k_vret hC hr hlocks hw [0] rfl rfl ⟨f, rfl, rfl⟩ (by decide) (by decide) dX12_shifts_21
    · have hi9 : i < n := by rcases Nat.lt_or_ge i n with h9 | h9; exact h9; exact absurd (nI_le h9 (by omega)) c1
      refine lv_aload_n hx hb dX12_shifts_7 rfl (lv_at hl 1 rfl) ?_
      refine lv_iload_n hx hb dX12_shifts_8 rfl (lv_at hl 0 rfl) ?_
      refine lv_aload_n hx hb dX12_shifts_9 rfl (lv_at hl 1 rfl) ?_
      refine lv_iload_n hx hb dX12_shifts_10 rfl (lv_at hl 2 rfl) ?_
      refine lv_iload_n hx hb dX12_shifts_11 rfl (lv_at hl 0 rfl) ?_
      refine lv_iadd hx hb dX12_shifts_12 ?_
      refine lv_topi (fun x_1285 ex_1285 => ?_)
      obtain rfl : x_1285 = (nI (n + i)) := ex_1285.trans (nI_add n i)
      refine k_iald hC hw 0 rfl (vp_in_nI (by omega) hb9) dX12_shifts_13 ?_
      refine lv_topi (fun x_1286 ex_1286 => ?_)
      refine k_iast hC hw 0 rfl (vp_in_nI (by omega) hb9) dX12_shifts_14 (fun H locs hw => ?_)
      obtain ⟨f_1287, ef_1287⟩ : ∃ g, g = upd f ((nI i) : Int32).toNatClampNeg x_1286 := ⟨_, rfl⟩
      have hw : kW γ A [(a, .inl (γ.2.1 0, N, .inl f_1287))] s H locs := by rw [ef_1287]; exact hw
      refine lv_iinc (v := (nI (i + 1))) (lv' := [(2, .int (nI (i + 1))), (0, .ref a), (1, .int (nI n))]) hx hb dX12_shifts_15 hl (k := 0) rfl (nI_1 i) (by decide) rfl (fun ls hl => ?_)
      refine lv_goto (tgt := 2) hx hb dX12_shifts_18 (by decide) ?_
      exact ih (i + 1) f_1287 (by omega) (by omega) _ _ (kW.sub hw [0] rfl rfl) _ (lv_sub hl [0, 1, 2] rfl)

set_option maxHeartbeats 4000000 in
set_option maxRecDepth 100000 in
theorem c_X12_shifts (γ : kΓ) (l : Launch) (a : Nat) (N : Nat) (f : Nat → Int32) (n : Nat) (hN : n + n ≤ N) (hb9 : N < 2 ^ 31) : kM γ l yX12_shifts cX12_shifts 3 none ({ frames := 0, cells := 0, slots := 0, locals := 0 } : Room) [.ref a, .int (nI n)] [(a, .inl (γ.2.1 0, N, .inl f))] (fun r w1 => ∃ (f9 : Nat → Int32), r = none ∧ w1 = [(a, .inl (γ.2.1 0, N, .inl f9))]) := by
  refine k_ofW (by decide) (Nat.le_of_ble_eq_true rfl) ?_
  intro p e s m below meth c A ls hC hr hlocks hname hw hl
  have hx := hC.1
  have hb := hC.2.1
  have hl : lv_has ls 3 [(0, .ref a), (1, .int (nI n))] := hl
  refine lv_iconst (v := 0) hx hb dX12_shifts_0 (by decide) ?_
  refine lv_istore_n (lv' := [(2, .int 0), (0, .ref a), (1, .int (nI n))]) hx hb dX12_shifts_1 rfl hl (by decide) rfl (fun ls hl => ?_)
  exact lp_shifts a N n hN hb9 hC hr hlocks (n + 1) 0 f (by omega) (Nat.zero_le n) _ _ hw _ (lv_sub hl [0, 1, 2] rfl)

set_option maxHeartbeats 4000000 in
set_option maxRecDepth 100000 in
theorem lp_shiftsNames {γ : kΓ} {l : Launch} {p : Program} {e : Env} {s : State} {m : MethodId} {below : List Frame} {meth : Method} {c : Code} {A : Nat → Prop} (a : Nat) (N : Nat) (n : Nat) (hN : n + n ≤ N) (hb9 : N < 2 ^ 31) (hC : kC γ p s m [.ref a, .int (nI n)].toArray c cX12_shiftsNames 3 RX12 A) (hr : meth.sig.returnType = none) (hlocks : meth.locks = false) : ∀ (k : Nat) (i : Nat) (f : Nat → Int64), n - i < k → (i ≤ n) → ∀ (H : Heap) (locs : List Loc), kW γ A [(a, .inl (γ.2.1 1, N, .inr (.inl f)))] s H locs → ∀ ls : Array Slot, lv_has ls 3 [(2, .int (nI i)), (0, .ref a), (1, .int (nI n))] → W p l e ({ frames := 0, cells := 0, slots := 0, locals := 0 } : Room) s m [.ref a, .int (nI n)].toArray below meth c H locs 0 0 (MQ below (kQ γ A (fun r w1 => ∃ (f9 : Nat → Int64), r = none ∧ w1 = [(a, .inl (γ.2.1 1, N, .inr (.inl f9)))])) [.ref a, .int (nI n)].toArray s 0 0 A) (F0 m 2 ls []) := by
  have hx := hC.1
  have hb := hC.2.1
  intro k
  induction k with
  | zero => intro i f hk; exact absurd hk (Nat.not_lt_zero _)
  | succ k ih =>
    intro i f hk hi H locs hw ls hl
    refine lv_iload_n hx hb dX12_shiftsNames_2 rfl (lv_at hl 0 rfl) ?_
    refine lv_iload_n hx hb dX12_shiftsNames_3 rfl (lv_at hl 2 rfl) ?_
    refine lv_icmp_ge (tgt := 21) hx hb dX12_shiftsNames_4 (by decide) (fun c1 => ?_) (fun c1 => ?_)
    · have hi9 : i = n := by have h9 := (nI_leI (a := n) (b := i) (by omega) (by omega)).mp c1; omega
      exact k_vret hC hr hlocks hw [0] rfl rfl ⟨f, rfl, rfl⟩ (by decide) (by decide) dX12_shiftsNames_21
    · have hi9 : i < n := by rcases Nat.lt_or_ge i n with h9 | h9; exact h9; exact absurd (nI_le h9 (by omega)) c1
      refine lv_aload_n hx hb dX12_shiftsNames_7 rfl (lv_at hl 1 rfl) ?_
      refine lv_iload_n hx hb dX12_shiftsNames_8 rfl (lv_at hl 0 rfl) ?_
      refine lv_aload_n hx hb dX12_shiftsNames_9 rfl (lv_at hl 1 rfl) ?_
      refine lv_iload_n hx hb dX12_shiftsNames_10 rfl (lv_at hl 2 rfl) ?_
      refine lv_iload_n hx hb dX12_shiftsNames_11 rfl (lv_at hl 0 rfl) ?_
      refine lv_iadd hx hb dX12_shiftsNames_12 ?_
      refine lv_topi (fun x_1288 ex_1288 => ?_)
      obtain rfl : x_1288 = (nI (n + i)) := ex_1288.trans (nI_add n i)
      refine k_lald hC hw 0 rfl (vp_in_nI (by omega) hb9) dX12_shiftsNames_13 ?_
      refine lv_topl (fun x_1289 ex_1289 => ?_)
      refine k_last hC hw 0 rfl (vp_in_nI (by omega) hb9) dX12_shiftsNames_14 (fun H locs hw => ?_)
      obtain ⟨f_1290, ef_1290⟩ : ∃ g, g = vp_updL f ((nI i) : Int32).toNatClampNeg x_1289 := ⟨_, rfl⟩
      have hw : kW γ A [(a, .inl (γ.2.1 1, N, .inr (.inl f_1290)))] s H locs := by rw [ef_1290]; exact hw
      refine lv_iinc (v := (nI (i + 1))) (lv' := [(2, .int (nI (i + 1))), (0, .ref a), (1, .int (nI n))]) hx hb dX12_shiftsNames_15 hl (k := 0) rfl (nI_1 i) (by decide) rfl (fun ls hl => ?_)
      refine lv_goto (tgt := 2) hx hb dX12_shiftsNames_18 (by decide) ?_
      exact ih (i + 1) f_1290 (by omega) (by omega) _ _ (kW.sub hw [0] rfl rfl) _ (lv_sub hl [0, 1, 2] rfl)

set_option maxHeartbeats 4000000 in
set_option maxRecDepth 100000 in
theorem c_X12_shiftsNames (γ : kΓ) (l : Launch) (a : Nat) (N : Nat) (f : Nat → Int64) (n : Nat) (hN : n + n ≤ N) (hb9 : N < 2 ^ 31) : kM γ l yX12_shiftsNames cX12_shiftsNames 3 none ({ frames := 0, cells := 0, slots := 0, locals := 0 } : Room) [.ref a, .int (nI n)] [(a, .inl (γ.2.1 1, N, .inr (.inl f)))] (fun r w1 => ∃ (f9 : Nat → Int64), r = none ∧ w1 = [(a, .inl (γ.2.1 1, N, .inr (.inl f9)))]) := by
  refine k_ofW (by decide) (Nat.le_of_ble_eq_true rfl) ?_
  intro p e s m below meth c A ls hC hr hlocks hname hw hl
  have hx := hC.1
  have hb := hC.2.1
  have hl : lv_has ls 3 [(0, .ref a), (1, .int (nI n))] := hl
  refine lv_iconst (v := 0) hx hb dX12_shiftsNames_0 (by decide) ?_
  refine lv_istore_n (lv' := [(2, .int 0), (0, .ref a), (1, .int (nI n))]) hx hb dX12_shiftsNames_1 rfl hl (by decide) rfl (fun ls hl => ?_)
  exact lp_shiftsNames a N n hN hb9 hC hr hlocks (n + 1) 0 f (by omega) (Nat.zero_le n) _ _ hw _ (lv_sub hl [0, 1, 2] rfl)

set_option maxHeartbeats 4000000 in
set_option maxRecDepth 100000 in
theorem lp_copies {γ : kΓ} {l : Launch} {p : Program} {e : Env} {s : State} {m : MethodId} {below : List Frame} {meth : Method} {c : Code} {A : Nat → Prop} (u : Nat) (N1 : Nat) (f1 : Nat → Int32) (a : Nat) (v : Nat) (N2 : Nat) (b : Nat) (h1 : a + 133 ≤ N1) (h2 : b + 133 ≤ N2) (b1 : N1 < 2 ^ 31) (b2 : N2 < 2 ^ 31) (hC : kC γ p s m [.ref u, .int (nI a), .ref v, .int (nI b)].toArray c cX12_copies 5 RX12 A) (hr : meth.sig.returnType = none) (hlocks : meth.locks = false) : ∀ (k : Nat) (i : Nat) (f2 : Nat → Int32), 133 - i < k → (i ≤ 133) → ∀ (H : Heap) (locs : List Loc), kW γ A [(u, .inl (γ.2.1 0, N1, .inl f1)), (v, .inl (γ.2.1 0, N2, .inl f2))] s H locs → ∀ ls : Array Slot, lv_has ls 5 [(4, .int (nI i)), (0, .ref u), (1, .int (nI a)), (2, .ref v), (3, .int (nI b))] → W p l e ({ frames := 0, cells := 0, slots := 0, locals := 0 } : Room) s m [.ref u, .int (nI a), .ref v, .int (nI b)].toArray below meth c H locs 0 0 (MQ below (kQ γ A (fun r w1 => ∃ (f9 : Nat → Int32), r = none ∧ w1 = [(u, .inl (γ.2.1 0, N1, .inl f1)), (v, .inl (γ.2.1 0, N2, .inl f9))])) [.ref u, .int (nI a), .ref v, .int (nI b)].toArray s 0 0 A) (F0 m 3 ls []) := by
  have hx := hC.1
  have hb := hC.2.1
  intro k
  induction k with
  | zero => intro i f2 hk; exact absurd hk (Nat.not_lt_zero _)
  | succ k ih =>
    intro i f2 hk hi H locs hw ls hl
    refine lv_iload hx hb dX12_copies_3 (lv_at hl 0 rfl) ?_
    refine lv_sipush (v := 133) hx hb dX12_copies_5 (by decide) ?_
    refine lv_icmp_ge (tgt := 29) hx hb dX12_copies_8 (by decide) (fun c1 => ?_) (fun c1 => ?_)
    · have hi9 : i = 133 := by have h9 := (nI_leI (a := 133) (b := i) (by omega) (by omega)).mp c1; omega
      exact k_vret hC hr hlocks hw [0, 1] rfl rfl ⟨f2, rfl, rfl⟩ (by decide) (by decide) dX12_copies_29
    · have hi9 : i < 133 := by rcases Nat.lt_or_ge i 133 with h9 | h9; exact h9; exact absurd (nI_le h9 (by omega)) c1
      refine lv_aload_n hx hb dX12_copies_11 rfl (lv_at hl 3 rfl) ?_
      refine lv_iload_n hx hb dX12_copies_12 rfl (lv_at hl 4 rfl) ?_
      refine lv_iload hx hb dX12_copies_13 (lv_at hl 0 rfl) ?_
      refine lv_iadd hx hb dX12_copies_15 ?_
      refine lv_topi (fun x_1291 ex_1291 => ?_)
      obtain rfl : x_1291 = (nI (b + i)) := ex_1291.trans (nI_add b i)
      refine lv_aload_n hx hb dX12_copies_16 rfl (lv_at hl 1 rfl) ?_
      refine lv_iload_n hx hb dX12_copies_17 rfl (lv_at hl 2 rfl) ?_
      refine lv_iload hx hb dX12_copies_18 (lv_at hl 0 rfl) ?_
      refine lv_iadd hx hb dX12_copies_20 ?_
      refine lv_topi (fun x_1292 ex_1292 => ?_)
      obtain rfl : x_1292 = (nI (a + i)) := ex_1292.trans (nI_add a i)
      refine k_iald hC hw 0 rfl (vp_in_nI (by omega) b1) dX12_copies_21 ?_
      refine lv_topi (fun x_1293 ex_1293 => ?_)
      refine k_iast hC hw 1 rfl (vp_in_nI (by omega) b2) dX12_copies_22 (fun H locs hw => ?_)
      obtain ⟨f_1294, ef_1294⟩ : ∃ g, g = upd f2 ((nI (b + i)) : Int32).toNatClampNeg x_1293 := ⟨_, rfl⟩
      have hw : kW γ A [(u, .inl (γ.2.1 0, N1, .inl f1)), (v, .inl (γ.2.1 0, N2, .inl f_1294))] s H locs := by rw [ef_1294]; exact hw
      refine lv_iinc (v := (nI (i + 1))) (lv' := [(4, .int (nI (i + 1))), (0, .ref u), (1, .int (nI a)), (2, .ref v), (3, .int (nI b))]) hx hb dX12_copies_23 hl (k := 0) rfl (nI_1 i) (by decide) rfl (fun ls hl => ?_)
      refine lv_goto (tgt := 3) hx hb dX12_copies_26 (by decide) ?_
      exact ih (i + 1) f_1294 (by omega) (by omega) _ _ (kW.sub hw [0, 1] rfl rfl) _ (lv_sub hl [0, 1, 2, 3, 4] rfl)

set_option maxHeartbeats 4000000 in
set_option maxRecDepth 100000 in
theorem c_X12_copies (γ : kΓ) (l : Launch) (u : Nat) (N1 : Nat) (f1 : Nat → Int32) (a : Nat) (v : Nat) (N2 : Nat) (f2 : Nat → Int32) (b : Nat) (h1 : a + 133 ≤ N1) (h2 : b + 133 ≤ N2) (b1 : N1 < 2 ^ 31) (b2 : N2 < 2 ^ 31) : kM γ l yX12_copies cX12_copies 5 none ({ frames := 0, cells := 0, slots := 0, locals := 0 } : Room) [.ref u, .int (nI a), .ref v, .int (nI b)] [(u, .inl (γ.2.1 0, N1, .inl f1)), (v, .inl (γ.2.1 0, N2, .inl f2))] (fun r w1 => ∃ (f9 : Nat → Int32), r = none ∧ w1 = [(u, .inl (γ.2.1 0, N1, .inl f1)), (v, .inl (γ.2.1 0, N2, .inl f9))]) := by
  refine k_ofW (by decide) (Nat.le_of_ble_eq_true rfl) ?_
  intro p e s m below meth c A ls hC hr hlocks hname hw hl
  have hx := hC.1
  have hb := hC.2.1
  have hl : lv_has ls 5 [(0, .ref u), (1, .int (nI a)), (2, .ref v), (3, .int (nI b))] := hl
  refine lv_iconst (v := 0) hx hb dX12_copies_0 (by decide) ?_
  refine lv_istore (lv' := [(4, .int 0), (0, .ref u), (1, .int (nI a)), (2, .ref v), (3, .int (nI b))]) hx hb dX12_copies_1 hl (by decide) rfl (fun ls hl => ?_)
  exact lp_copies u N1 f1 a v N2 b h1 h2 b1 b2 hC hr hlocks 134 0 f2 (by omega) (by omega) _ _ hw _ (lv_sub hl [0, 1, 2, 3, 4] rfl)

set_option maxHeartbeats 4000000 in
set_option maxRecDepth 100000 in
theorem lp_fresh {γ : kΓ} {l : Launch} {p : Program} {e : Env} {s : State} {m : MethodId} {below : List Frame} {meth : Method} {c : Code} {A : Nat → Prop} (z : Nat) (z2 : Nat) (z10 : Nat) (z11 : Nat) (z12 : Nat) (z13 : Nat) (z14 : Nat) (z15 : Nat) (z16 : Nat) (z17 : Nat) (z18 : Nat) (z19 : Nat) (z22 : Nat) (z23 : Nat) (z24 : Nat) (z25 : Nat) (z26 : Nat) (z27 : Nat) (z28 : Nat) (z29 : Nat) (z30 : Nat) (z31 : Nat) (z32 : Nat) (z33 : Nat) (z36 : Nat) (z37 : Nat) (z38 : Nat) (z39 : Nat) (z40 : Nat) (z41 : Nat) (z42 : Nat) (z43 : Nat) (z44 : Nat) (z45 : Nat) (z46 : Nat) (z47 : Nat) (z48 : Nat) (z55 : Nat) (z56 : Nat) (z59 : Nat) (z60 : Nat) (z61 : Nat) (n0 : Int32) (n1 : Int32) (n3 : Int32) (n4 : Int32) (n5 : Int32) (n6 : Int32) (n7 : Int64) (n8 : Int32) (n9 : Int32) (n20 : Int32) (n21 : Int32) (n34 : Int32) (n35 : Int64) (n49 : Int32) (n50 : Int32) (n51 : Int32) (n52 : Int32) (n53 : Int32) (n54 : Int32) (n57 : Int32) (n58 : Int32) (n62 : Int32) (n63 : Int64) (hC : kC γ p s m [.ref z].toArray c cX12_fresh 2 RX12 A) (hr : meth.sig.returnType = none) (hlocks : meth.locks = false) : ∀ (k : Nat) (i : Nat) (f : Nat → Int32), 133 - i < k → (i ≤ 133) → ∀ (H : Heap) (locs : List Loc), kW γ A [(z, .inr (11, [.int n0, .int n1, .ref z2, .int n3, .int n4, .int n5, .int n6, .long n7, .int n8, .int n9, .ref z10, .ref z11, .ref z12, .ref z13, .ref z14, .ref z15, .ref z16, .ref z17, .ref z18, .ref z19, .int n20, .int n21, .ref z22, .ref z23, .ref z24, .ref z25, .ref z26, .ref z27, .ref z28, .ref z29, .ref z30, .ref z31, .ref z32, .ref z33, .int n34, .long n35, .ref z36, .ref z37, .ref z38, .ref z39, .ref z40, .ref z41, .ref z42, .ref z43, .ref z44, .ref z45, .ref z46, .ref z47, .ref z48, .int n49, .int n50, .int n51, .int n52, .int n53, .int n54, .ref z55, .ref z56, .int n57, .int n58, .ref z59, .ref z60, .ref z61, .int n62, .long n63])), (z43, .inl (γ.2.1 0, 133, .inl f))] s H locs → ∀ ls : Array Slot, lv_has ls 2 [(1, .int (nI i)), (0, .ref z)] → W p l e ({ frames := 0, cells := 0, slots := 0, locals := 0 } : Room) s m [.ref z].toArray below meth c H locs 0 0 (MQ below (kQ γ A (fun r w1 => ∃ (f9 : Nat → Int32), r = none ∧ w1 = [(z, .inr (11, [.int n0, .int n1, .ref z2, .int n3, .int n4, .int n5, .int n6, .long n7, .int n8, .int n9, .ref z10, .ref z11, .ref z12, .ref z13, .ref z14, .ref z15, .ref z16, .ref z17, .ref z18, .ref z19, .int n20, .int n21, .ref z22, .ref z23, .ref z24, .ref z25, .ref z26, .ref z27, .ref z28, .ref z29, .ref z30, .ref z31, .ref z32, .ref z33, .int n34, .long n35, .ref z36, .ref z37, .ref z38, .ref z39, .ref z40, .ref z41, .ref z42, .ref z43, .ref z44, .ref z45, .ref z46, .ref z47, .ref z48, .int n49, .int n50, .int n51, .int n52, .int n53, .int n54, .ref z55, .ref z56, .int n57, .int n58, .ref z59, .ref z60, .ref z61, .int n62, .long n63])), (z43, .inl (γ.2.1 0, 133, .inl f9))])) [.ref z].toArray s 0 0 A) (F0 m 2 ls []) := by
  have hx := hC.1
  have hb := hC.2.1
  intro k
  induction k with
  | zero => intro i f hk; exact absurd hk (Nat.not_lt_zero _)
  | succ k ih =>
    intro i f hk hi H locs hw ls hl
    refine lv_iload_n hx hb dX12_fresh_2 rfl (lv_at hl 0 rfl) ?_
    refine lv_sipush (v := 133) hx hb dX12_fresh_3 (by decide) ?_
    refine lv_icmp_ge (tgt := 22) hx hb dX12_fresh_6 (by decide) (fun c1 => ?_) (fun c1 => ?_)
    · have hi9 : i = 133 := by have h9 := (nI_leI (a := 133) (b := i) (by omega) (by omega)).mp c1; omega
      exact k_vret hC hr hlocks hw [0, 1] rfl rfl ⟨f, rfl, rfl⟩ (by decide) (by decide) dX12_fresh_22
    · have hi9 : i < 133 := by rcases Nat.lt_or_ge i 133 with h9 | h9; exact h9; exact absurd (nI_le h9 (by omega)) c1
      refine lv_aload_n hx hb dX12_fresh_9 rfl (lv_at hl 1 rfl) ?_
      refine fg_RX12_102 hC hw 0 rfl rfl dX12_fresh_10 ?_
      refine lv_iload_n hx hb dX12_fresh_13 rfl (lv_at hl 0 rfl) ?_
      refine lv_iconst (v := 0) hx hb dX12_fresh_14 (by decide) ?_
      refine k_iast hC hw 1 rfl (vp_in_nI hi9 (by decide)) dX12_fresh_15 (fun H locs hw => ?_)
      obtain ⟨f_1295, ef_1295⟩ : ∃ g, g = upd f ((nI i) : Int32).toNatClampNeg 0 := ⟨_, rfl⟩
      have hw : kW γ A [(z, .inr (11, [.int n0, .int n1, .ref z2, .int n3, .int n4, .int n5, .int n6, .long n7, .int n8, .int n9, .ref z10, .ref z11, .ref z12, .ref z13, .ref z14, .ref z15, .ref z16, .ref z17, .ref z18, .ref z19, .int n20, .int n21, .ref z22, .ref z23, .ref z24, .ref z25, .ref z26, .ref z27, .ref z28, .ref z29, .ref z30, .ref z31, .ref z32, .ref z33, .int n34, .long n35, .ref z36, .ref z37, .ref z38, .ref z39, .ref z40, .ref z41, .ref z42, .ref z43, .ref z44, .ref z45, .ref z46, .ref z47, .ref z48, .int n49, .int n50, .int n51, .int n52, .int n53, .int n54, .ref z55, .ref z56, .int n57, .int n58, .ref z59, .ref z60, .ref z61, .int n62, .long n63])), (z43, .inl (γ.2.1 0, 133, .inl f_1295))] s H locs := by rw [ef_1295]; exact hw
      refine lv_iinc (v := (nI (i + 1))) (lv' := [(1, .int (nI (i + 1))), (0, .ref z)]) hx hb dX12_fresh_16 hl (k := 0) rfl (nI_1 i) (by decide) rfl (fun ls hl => ?_)
      refine lv_goto (tgt := 2) hx hb dX12_fresh_19 (by decide) ?_
      exact ih (i + 1) f_1295 (by omega) (by omega) _ _ (kW.sub hw [0, 1] rfl rfl) _ (lv_sub hl [0, 1] rfl)

set_option maxHeartbeats 4000000 in
set_option maxRecDepth 100000 in
theorem c_X12_fresh (γ : kΓ) (l : Launch) (z : Nat) (z2 : Nat) (z10 : Nat) (z11 : Nat) (z12 : Nat) (z13 : Nat) (z14 : Nat) (z15 : Nat) (z16 : Nat) (z17 : Nat) (z18 : Nat) (z19 : Nat) (z22 : Nat) (z23 : Nat) (z24 : Nat) (z25 : Nat) (z26 : Nat) (z27 : Nat) (z28 : Nat) (z29 : Nat) (z30 : Nat) (z31 : Nat) (z32 : Nat) (z33 : Nat) (z36 : Nat) (z37 : Nat) (z38 : Nat) (z39 : Nat) (z40 : Nat) (z41 : Nat) (z42 : Nat) (z43 : Nat) (z44 : Nat) (z45 : Nat) (z46 : Nat) (z47 : Nat) (z48 : Nat) (z55 : Nat) (z56 : Nat) (z59 : Nat) (z60 : Nat) (z61 : Nat) (n0 : Int32) (n1 : Int32) (n3 : Int32) (n4 : Int32) (n5 : Int32) (n6 : Int32) (n7 : Int64) (n8 : Int32) (n9 : Int32) (n20 : Int32) (n21 : Int32) (n34 : Int32) (n35 : Int64) (n49 : Int32) (n50 : Int32) (n51 : Int32) (n52 : Int32) (n53 : Int32) (n54 : Int32) (n57 : Int32) (n58 : Int32) (n62 : Int32) (n63 : Int64) (f : Nat → Int32) : kM γ l yX12_fresh cX12_fresh 2 none ({ frames := 0, cells := 0, slots := 0, locals := 0 } : Room) [.ref z] [(z, .inr (11, [.int n0, .int n1, .ref z2, .int n3, .int n4, .int n5, .int n6, .long n7, .int n8, .int n9, .ref z10, .ref z11, .ref z12, .ref z13, .ref z14, .ref z15, .ref z16, .ref z17, .ref z18, .ref z19, .int n20, .int n21, .ref z22, .ref z23, .ref z24, .ref z25, .ref z26, .ref z27, .ref z28, .ref z29, .ref z30, .ref z31, .ref z32, .ref z33, .int n34, .long n35, .ref z36, .ref z37, .ref z38, .ref z39, .ref z40, .ref z41, .ref z42, .ref z43, .ref z44, .ref z45, .ref z46, .ref z47, .ref z48, .int n49, .int n50, .int n51, .int n52, .int n53, .int n54, .ref z55, .ref z56, .int n57, .int n58, .ref z59, .ref z60, .ref z61, .int n62, .long n63])), (z43, .inl (γ.2.1 0, 133, .inl f))] (fun r w1 => ∃ (f9 : Nat → Int32), r = none ∧ w1 = [(z, .inr (11, [.int n0, .int n1, .ref z2, .int n3, .int n4, .int n5, .int n6, .long n7, .int n8, .int n9, .ref z10, .ref z11, .ref z12, .ref z13, .ref z14, .ref z15, .ref z16, .ref z17, .ref z18, .ref z19, .int n20, .int n21, .ref z22, .ref z23, .ref z24, .ref z25, .ref z26, .ref z27, .ref z28, .ref z29, .ref z30, .ref z31, .ref z32, .ref z33, .int n34, .long n35, .ref z36, .ref z37, .ref z38, .ref z39, .ref z40, .ref z41, .ref z42, .ref z43, .ref z44, .ref z45, .ref z46, .ref z47, .ref z48, .int n49, .int n50, .int n51, .int n52, .int n53, .int n54, .ref z55, .ref z56, .int n57, .int n58, .ref z59, .ref z60, .ref z61, .int n62, .long n63])), (z43, .inl (γ.2.1 0, 133, .inl f9))]) := by
  refine k_ofW (by decide) (Nat.le_of_ble_eq_true rfl) ?_
  intro p e s m below meth c A ls hC hr hlocks hname hw hl
  have hx := hC.1
  have hb := hC.2.1
  have hl : lv_has ls 2 [(0, .ref z)] := hl
  refine lv_iconst (v := 0) hx hb dX12_fresh_0 (by decide) ?_
  refine lv_istore_n (lv' := [(1, .int 0), (0, .ref z)]) hx hb dX12_fresh_1 rfl hl (by decide) rfl (fun ls hl => ?_)
  exact lp_fresh z z2 z10 z11 z12 z13 z14 z15 z16 z17 z18 z19 z22 z23 z24 z25 z26 z27 z28 z29 z30 z31 z32 z33 z36 z37 z38 z39 z40 z41 z42 z43 z44 z45 z46 z47 z48 z55 z56 z59 z60 z61 n0 n1 n3 n4 n5 n6 n7 n8 n9 n20 n21 n34 n35 n49 n50 n51 n52 n53 n54 n57 n58 n62 n63 hC hr hlocks 134 0 f (by omega) (by omega) _ _ hw _ (lv_sub hl [0, 1] rfl)

set_option maxHeartbeats 4000000 in
set_option maxRecDepth 100000 in
theorem lp_laysLines {γ : kΓ} {l : Launch} {p : Program} {e : Env} {s : State} {m : MethodId} {below : List Frame} {meth : Method} {c : Code} {A : Nat → Prop} (z : Nat) (z2 : Nat) (z10 : Nat) (z11 : Nat) (z12 : Nat) (z13 : Nat) (z14 : Nat) (z15 : Nat) (z16 : Nat) (z17 : Nat) (z18 : Nat) (z19 : Nat) (z22 : Nat) (z23 : Nat) (z24 : Nat) (z25 : Nat) (z26 : Nat) (z27 : Nat) (z28 : Nat) (z29 : Nat) (z30 : Nat) (z31 : Nat) (z32 : Nat) (z33 : Nat) (z36 : Nat) (z37 : Nat) (z38 : Nat) (z39 : Nat) (z40 : Nat) (z41 : Nat) (z42 : Nat) (z43 : Nat) (z44 : Nat) (z45 : Nat) (z46 : Nat) (z47 : Nat) (z48 : Nat) (z55 : Nat) (z56 : Nat) (z59 : Nat) (z60 : Nat) (z61 : Nat) (n0 : Int32) (n1 : Int32) (n3 : Int32) (n4 : Int32) (n5 : Int32) (n6 : Int32) (n7 : Int64) (n8 : Int32) (n9 : Int32) (n20 : Int32) (n21 : Int32) (n34 : Int32) (n35 : Int64) (n49 : Int32) (n50 : Int32) (n51 : Int32) (n52 : Int32) (n53 : Int32) (n54 : Int32) (n57 : Int32) (n58 : Int32) (n62 : Int32) (n63 : Int64) (fl : Nat → Int32) (ft : Nat) (tt : Nat) (h1 : ft < 6) (h2 : tt < 6) (hC : kC γ p s m [.ref z, .int (nI ft), .int (nI tt)].toArray c cX12_laysLines 4 RX12 A) (hr : meth.sig.returnType = none) (hlocks : meth.locks = false) : ∀ (k : Nat) (i : Nat) (g0 : Nat → Int32) (g1 : Nat → Int32) (g2 : Nat → Int32), 40 - i < k → (i ≤ 40) → ∀ (H : Heap) (locs : List Loc), kW γ A [(z, .inr (11, [.int n0, .int n1, .ref z2, .int n3, .int n4, .int n5, .int n6, .long n7, .int n8, .int n9, .ref z10, .ref z11, .ref z12, .ref z13, .ref z14, .ref z15, .ref z16, .ref z17, .ref z18, .ref z19, .int n20, .int n21, .ref z22, .ref z23, .ref z24, .ref z25, .ref z26, .ref z27, .ref z28, .ref z29, .ref z30, .ref z31, .ref z32, .ref z33, .int n34, .long n35, .ref z36, .ref z37, .ref z38, .ref z39, .ref z40, .ref z41, .ref z42, .ref z43, .ref z44, .ref z45, .ref z46, .ref z47, .ref z48, .int n49, .int n50, .int n51, .int n52, .int n53, .int n54, .ref z55, .ref z56, .int n57, .int n58, .ref z59, .ref z60, .ref z61, .int n62, .long n63])), (z36, .inl (γ.2.1 0, 6, .inl fl)), (z37, .inl (γ.2.1 0, 240, .inl g0)), (z38, .inl (γ.2.1 0, 240, .inl g1)), (z39, .inl (γ.2.1 0, 240, .inl g2))] s H locs → ∀ ls : Array Slot, lv_has ls 4 [(3, .int (nI i)), (0, .ref z), (1, .int (nI ft)), (2, .int (nI tt))] → W p l e ({ frames := 0, cells := 0, slots := 0, locals := 0 } : Room) s m [.ref z, .int (nI ft), .int (nI tt)].toArray below meth c H locs 0 0 (MQ below (kQ γ A (fun r w1 => ∃ (k0 : Nat → Int32), ∃ (kg0 : Nat → Int32), ∃ (kg1 : Nat → Int32), ∃ (kg2 : Nat → Int32), r = none ∧ w1 = [(z, .inr (11, [.int n0, .int n1, .ref z2, .int n3, .int n4, .int n5, .int n6, .long n7, .int n8, .int n9, .ref z10, .ref z11, .ref z12, .ref z13, .ref z14, .ref z15, .ref z16, .ref z17, .ref z18, .ref z19, .int n20, .int n21, .ref z22, .ref z23, .ref z24, .ref z25, .ref z26, .ref z27, .ref z28, .ref z29, .ref z30, .ref z31, .ref z32, .ref z33, .int n34, .long n35, .ref z36, .ref z37, .ref z38, .ref z39, .ref z40, .ref z41, .ref z42, .ref z43, .ref z44, .ref z45, .ref z46, .ref z47, .ref z48, .int n49, .int n50, .int n51, .int n52, .int n53, .int n54, .ref z55, .ref z56, .int n57, .int n58, .ref z59, .ref z60, .ref z61, .int n62, .long n63])), (z36, .inl (γ.2.1 0, 6, .inl k0)), (z37, .inl (γ.2.1 0, 240, .inl kg0)), (z38, .inl (γ.2.1 0, 240, .inl kg1)), (z39, .inl (γ.2.1 0, 240, .inl kg2))])) [.ref z, .int (nI ft), .int (nI tt)].toArray s 0 0 A) (F0 m 14 ls []) := by
  have hx := hC.1
  have hb := hC.2.1
  intro k
  induction k with
  | zero => intro i g0 g1 g2 hk; exact absurd hk (Nat.not_lt_zero _)
  | succ k ih =>
    intro i g0 g1 g2 hk hi H locs hw ls hl
    refine lv_iload_n hx hb dX12_laysLines_14 rfl (lv_at hl 0 rfl) ?_
    refine lv_bipush (v := 40) hx hb dX12_laysLines_15 (by decide) ?_
    refine lv_icmp_ge (tgt := 92) hx hb dX12_laysLines_17 (by decide) (fun c1 => ?_) (fun c1 => ?_)
    · have hi9 : i = 40 := by have h9 := (nI_leI (a := 40) (b := i) (by omega) (by omega)).mp c1; omega
      exact k_vret hC hr hlocks hw [0, 1, 2, 3, 4] rfl rfl ⟨fl, g0, g1, g2, rfl, rfl⟩ (by decide) (by decide) dX12_laysLines_92
    · have hi9 : i < 40 := by rcases Nat.lt_or_ge i 40 with h9 | h9; exact h9; exact absurd (nI_le h9 (by omega)) c1
      refine lv_aload_n hx hb dX12_laysLines_20 rfl (lv_at hl 1 rfl) ?_
      refine fg_RX12_84 hC hw 0 rfl rfl dX12_laysLines_21 ?_
      refine lv_bipush (v := 40) hx hb dX12_laysLines_24 (by decide) ?_
      refine lv_iload_n hx hb dX12_laysLines_26 rfl (lv_at hl 3 rfl) ?_
      refine lv_imul hx hb dX12_laysLines_27 ?_
      refine lv_topi (fun x_1296 ex_1296 => ?_)
      obtain rfl : x_1296 = (nI (40 * tt)) := ex_1296.trans (pk_mul 40 tt)
      refine lv_iload_n hx hb dX12_laysLines_28 rfl (lv_at hl 0 rfl) ?_
      refine lv_iadd hx hb dX12_laysLines_29 ?_
      refine lv_topi (fun x_1297 ex_1297 => ?_)
      obtain rfl : x_1297 = (nI (40 * tt + i)) := ex_1297.trans (nI_add (40 * tt) i)
      refine lv_aload_n hx hb dX12_laysLines_30 rfl (lv_at hl 1 rfl) ?_
      refine fg_RX12_84 hC hw 0 rfl rfl dX12_laysLines_31 ?_
      refine lv_bipush (v := 40) hx hb dX12_laysLines_34 (by decide) ?_
      refine lv_iload_n hx hb dX12_laysLines_36 rfl (lv_at hl 2 rfl) ?_
      refine lv_imul hx hb dX12_laysLines_37 ?_
      refine lv_topi (fun x_1298 ex_1298 => ?_)
      obtain rfl : x_1298 = (nI (40 * ft)) := ex_1298.trans (pk_mul 40 ft)
      refine lv_iload_n hx hb dX12_laysLines_38 rfl (lv_at hl 0 rfl) ?_
      refine lv_iadd hx hb dX12_laysLines_39 ?_
      refine lv_topi (fun x_1299 ex_1299 => ?_)
      obtain rfl : x_1299 = (nI (40 * ft + i)) := ex_1299.trans (nI_add (40 * ft) i)
      refine k_iald hC hw 2 rfl (vp_in_nI (by omega) (by decide)) dX12_laysLines_40 ?_
      refine lv_topi (fun x_1300 ex_1300 => ?_)
      refine k_iast hC hw 2 rfl (vp_in_nI (by omega) (by decide)) dX12_laysLines_41 (fun H locs hw => ?_)
      obtain ⟨f_1301, ef_1301⟩ : ∃ g, g = upd g0 ((nI (40 * tt + i)) : Int32).toNatClampNeg x_1300 := ⟨_, rfl⟩
      have hw : kW γ A [(z, .inr (11, [.int n0, .int n1, .ref z2, .int n3, .int n4, .int n5, .int n6, .long n7, .int n8, .int n9, .ref z10, .ref z11, .ref z12, .ref z13, .ref z14, .ref z15, .ref z16, .ref z17, .ref z18, .ref z19, .int n20, .int n21, .ref z22, .ref z23, .ref z24, .ref z25, .ref z26, .ref z27, .ref z28, .ref z29, .ref z30, .ref z31, .ref z32, .ref z33, .int n34, .long n35, .ref z36, .ref z37, .ref z38, .ref z39, .ref z40, .ref z41, .ref z42, .ref z43, .ref z44, .ref z45, .ref z46, .ref z47, .ref z48, .int n49, .int n50, .int n51, .int n52, .int n53, .int n54, .ref z55, .ref z56, .int n57, .int n58, .ref z59, .ref z60, .ref z61, .int n62, .long n63])), (z36, .inl (γ.2.1 0, 6, .inl fl)), (z37, .inl (γ.2.1 0, 240, .inl f_1301)), (z38, .inl (γ.2.1 0, 240, .inl g1)), (z39, .inl (γ.2.1 0, 240, .inl g2))] s H locs := by rw [ef_1301]; exact hw
      refine lv_aload_n hx hb dX12_laysLines_42 rfl (lv_at hl 1 rfl) ?_
      refine fg_RX12_87 hC hw 0 rfl rfl dX12_laysLines_43 ?_
      refine lv_bipush (v := 40) hx hb dX12_laysLines_46 (by decide) ?_
      refine lv_iload_n hx hb dX12_laysLines_48 rfl (lv_at hl 3 rfl) ?_
      refine lv_imul hx hb dX12_laysLines_49 ?_
      refine lv_topi (fun x_1302 ex_1302 => ?_)
      obtain rfl : x_1302 = (nI (40 * tt)) := ex_1302.trans (pk_mul 40 tt)
      refine lv_iload_n hx hb dX12_laysLines_50 rfl (lv_at hl 0 rfl) ?_
      refine lv_iadd hx hb dX12_laysLines_51 ?_
      refine lv_topi (fun x_1303 ex_1303 => ?_)
      obtain rfl : x_1303 = (nI (40 * tt + i)) := ex_1303.trans (nI_add (40 * tt) i)
      refine lv_aload_n hx hb dX12_laysLines_52 rfl (lv_at hl 1 rfl) ?_
      refine fg_RX12_87 hC hw 0 rfl rfl dX12_laysLines_53 ?_
      refine lv_bipush (v := 40) hx hb dX12_laysLines_56 (by decide) ?_
      refine lv_iload_n hx hb dX12_laysLines_58 rfl (lv_at hl 2 rfl) ?_
      refine lv_imul hx hb dX12_laysLines_59 ?_
      refine lv_topi (fun x_1304 ex_1304 => ?_)
      obtain rfl : x_1304 = (nI (40 * ft)) := ex_1304.trans (pk_mul 40 ft)
      refine lv_iload_n hx hb dX12_laysLines_60 rfl (lv_at hl 0 rfl) ?_
      refine lv_iadd hx hb dX12_laysLines_61 ?_
      refine lv_topi (fun x_1305 ex_1305 => ?_)
      obtain rfl : x_1305 = (nI (40 * ft + i)) := ex_1305.trans (nI_add (40 * ft) i)
      refine k_iald hC hw 3 rfl (vp_in_nI (by omega) (by decide)) dX12_laysLines_62 ?_
      refine lv_topi (fun x_1306 ex_1306 => ?_)
      refine k_iast hC hw 3 rfl (vp_in_nI (by omega) (by decide)) dX12_laysLines_63 (fun H locs hw => ?_)
      obtain ⟨f_1307, ef_1307⟩ : ∃ g, g = upd g1 ((nI (40 * tt + i)) : Int32).toNatClampNeg x_1306 := ⟨_, rfl⟩
      have hw : kW γ A [(z, .inr (11, [.int n0, .int n1, .ref z2, .int n3, .int n4, .int n5, .int n6, .long n7, .int n8, .int n9, .ref z10, .ref z11, .ref z12, .ref z13, .ref z14, .ref z15, .ref z16, .ref z17, .ref z18, .ref z19, .int n20, .int n21, .ref z22, .ref z23, .ref z24, .ref z25, .ref z26, .ref z27, .ref z28, .ref z29, .ref z30, .ref z31, .ref z32, .ref z33, .int n34, .long n35, .ref z36, .ref z37, .ref z38, .ref z39, .ref z40, .ref z41, .ref z42, .ref z43, .ref z44, .ref z45, .ref z46, .ref z47, .ref z48, .int n49, .int n50, .int n51, .int n52, .int n53, .int n54, .ref z55, .ref z56, .int n57, .int n58, .ref z59, .ref z60, .ref z61, .int n62, .long n63])), (z36, .inl (γ.2.1 0, 6, .inl fl)), (z37, .inl (γ.2.1 0, 240, .inl f_1301)), (z38, .inl (γ.2.1 0, 240, .inl f_1307)), (z39, .inl (γ.2.1 0, 240, .inl g2))] s H locs := by rw [ef_1307]; exact hw
      refine lv_aload_n hx hb dX12_laysLines_64 rfl (lv_at hl 1 rfl) ?_
      refine fg_RX12_90 hC hw 0 rfl rfl dX12_laysLines_65 ?_
      refine lv_bipush (v := 40) hx hb dX12_laysLines_68 (by decide) ?_
      refine lv_iload_n hx hb dX12_laysLines_70 rfl (lv_at hl 3 rfl) ?_
      refine lv_imul hx hb dX12_laysLines_71 ?_
      refine lv_topi (fun x_1308 ex_1308 => ?_)
      obtain rfl : x_1308 = (nI (40 * tt)) := ex_1308.trans (pk_mul 40 tt)
      refine lv_iload_n hx hb dX12_laysLines_72 rfl (lv_at hl 0 rfl) ?_
      refine lv_iadd hx hb dX12_laysLines_73 ?_
      refine lv_topi (fun x_1309 ex_1309 => ?_)
      obtain rfl : x_1309 = (nI (40 * tt + i)) := ex_1309.trans (nI_add (40 * tt) i)
      refine lv_aload_n hx hb dX12_laysLines_74 rfl (lv_at hl 1 rfl) ?_
      refine fg_RX12_90 hC hw 0 rfl rfl dX12_laysLines_75 ?_
      refine lv_bipush (v := 40) hx hb dX12_laysLines_78 (by decide) ?_
      refine lv_iload_n hx hb dX12_laysLines_80 rfl (lv_at hl 2 rfl) ?_
      refine lv_imul hx hb dX12_laysLines_81 ?_
      refine lv_topi (fun x_1310 ex_1310 => ?_)
      obtain rfl : x_1310 = (nI (40 * ft)) := ex_1310.trans (pk_mul 40 ft)
      refine lv_iload_n hx hb dX12_laysLines_82 rfl (lv_at hl 0 rfl) ?_
      refine lv_iadd hx hb dX12_laysLines_83 ?_
      refine lv_topi (fun x_1311 ex_1311 => ?_)
      obtain rfl : x_1311 = (nI (40 * ft + i)) := ex_1311.trans (nI_add (40 * ft) i)
      refine k_iald hC hw 4 rfl (vp_in_nI (by omega) (by decide)) dX12_laysLines_84 ?_
      refine lv_topi (fun x_1312 ex_1312 => ?_)
      refine k_iast hC hw 4 rfl (vp_in_nI (by omega) (by decide)) dX12_laysLines_85 (fun H locs hw => ?_)
      obtain ⟨f_1313, ef_1313⟩ : ∃ g, g = upd g2 ((nI (40 * tt + i)) : Int32).toNatClampNeg x_1312 := ⟨_, rfl⟩
      have hw : kW γ A [(z, .inr (11, [.int n0, .int n1, .ref z2, .int n3, .int n4, .int n5, .int n6, .long n7, .int n8, .int n9, .ref z10, .ref z11, .ref z12, .ref z13, .ref z14, .ref z15, .ref z16, .ref z17, .ref z18, .ref z19, .int n20, .int n21, .ref z22, .ref z23, .ref z24, .ref z25, .ref z26, .ref z27, .ref z28, .ref z29, .ref z30, .ref z31, .ref z32, .ref z33, .int n34, .long n35, .ref z36, .ref z37, .ref z38, .ref z39, .ref z40, .ref z41, .ref z42, .ref z43, .ref z44, .ref z45, .ref z46, .ref z47, .ref z48, .int n49, .int n50, .int n51, .int n52, .int n53, .int n54, .ref z55, .ref z56, .int n57, .int n58, .ref z59, .ref z60, .ref z61, .int n62, .long n63])), (z36, .inl (γ.2.1 0, 6, .inl fl)), (z37, .inl (γ.2.1 0, 240, .inl f_1301)), (z38, .inl (γ.2.1 0, 240, .inl f_1307)), (z39, .inl (γ.2.1 0, 240, .inl f_1313))] s H locs := by rw [ef_1313]; exact hw
      refine lv_iinc (v := (nI (i + 1))) (lv' := [(3, .int (nI (i + 1))), (0, .ref z), (1, .int (nI ft)), (2, .int (nI tt))]) hx hb dX12_laysLines_86 hl (k := 0) rfl (nI_1 i) (by decide) rfl (fun ls hl => ?_)
      refine lv_goto (tgt := 14) hx hb dX12_laysLines_89 (by decide) ?_
      exact ih (i + 1) f_1301 f_1307 f_1313 (by omega) (by omega) _ _ (kW.sub hw [0, 1, 2, 3, 4] rfl rfl) _ (lv_sub hl [0, 1, 2, 3] rfl)

set_option maxHeartbeats 4000000 in
set_option maxRecDepth 100000 in
theorem c_X12_laysLines (γ : kΓ) (l : Launch) (z : Nat) (z2 : Nat) (z10 : Nat) (z11 : Nat) (z12 : Nat) (z13 : Nat) (z14 : Nat) (z15 : Nat) (z16 : Nat) (z17 : Nat) (z18 : Nat) (z19 : Nat) (z22 : Nat) (z23 : Nat) (z24 : Nat) (z25 : Nat) (z26 : Nat) (z27 : Nat) (z28 : Nat) (z29 : Nat) (z30 : Nat) (z31 : Nat) (z32 : Nat) (z33 : Nat) (z36 : Nat) (z37 : Nat) (z38 : Nat) (z39 : Nat) (z40 : Nat) (z41 : Nat) (z42 : Nat) (z43 : Nat) (z44 : Nat) (z45 : Nat) (z46 : Nat) (z47 : Nat) (z48 : Nat) (z55 : Nat) (z56 : Nat) (z59 : Nat) (z60 : Nat) (z61 : Nat) (n0 : Int32) (n1 : Int32) (n3 : Int32) (n4 : Int32) (n5 : Int32) (n6 : Int32) (n7 : Int64) (n8 : Int32) (n9 : Int32) (n20 : Int32) (n21 : Int32) (n34 : Int32) (n35 : Int64) (n49 : Int32) (n50 : Int32) (n51 : Int32) (n52 : Int32) (n53 : Int32) (n54 : Int32) (n57 : Int32) (n58 : Int32) (n62 : Int32) (n63 : Int64) (fl : Nat → Int32) (g0 : Nat → Int32) (g1 : Nat → Int32) (g2 : Nat → Int32) (ft : Nat) (tt : Nat) (h1 : ft < 6) (h2 : tt < 6) : kM γ l yX12_laysLines cX12_laysLines 4 none ({ frames := 0, cells := 0, slots := 0, locals := 0 } : Room) [.ref z, .int (nI ft), .int (nI tt)] [(z, .inr (11, [.int n0, .int n1, .ref z2, .int n3, .int n4, .int n5, .int n6, .long n7, .int n8, .int n9, .ref z10, .ref z11, .ref z12, .ref z13, .ref z14, .ref z15, .ref z16, .ref z17, .ref z18, .ref z19, .int n20, .int n21, .ref z22, .ref z23, .ref z24, .ref z25, .ref z26, .ref z27, .ref z28, .ref z29, .ref z30, .ref z31, .ref z32, .ref z33, .int n34, .long n35, .ref z36, .ref z37, .ref z38, .ref z39, .ref z40, .ref z41, .ref z42, .ref z43, .ref z44, .ref z45, .ref z46, .ref z47, .ref z48, .int n49, .int n50, .int n51, .int n52, .int n53, .int n54, .ref z55, .ref z56, .int n57, .int n58, .ref z59, .ref z60, .ref z61, .int n62, .long n63])), (z36, .inl (γ.2.1 0, 6, .inl fl)), (z37, .inl (γ.2.1 0, 240, .inl g0)), (z38, .inl (γ.2.1 0, 240, .inl g1)), (z39, .inl (γ.2.1 0, 240, .inl g2))] (fun r w1 => ∃ (k0 : Nat → Int32), ∃ (kg0 : Nat → Int32), ∃ (kg1 : Nat → Int32), ∃ (kg2 : Nat → Int32), r = none ∧ w1 = [(z, .inr (11, [.int n0, .int n1, .ref z2, .int n3, .int n4, .int n5, .int n6, .long n7, .int n8, .int n9, .ref z10, .ref z11, .ref z12, .ref z13, .ref z14, .ref z15, .ref z16, .ref z17, .ref z18, .ref z19, .int n20, .int n21, .ref z22, .ref z23, .ref z24, .ref z25, .ref z26, .ref z27, .ref z28, .ref z29, .ref z30, .ref z31, .ref z32, .ref z33, .int n34, .long n35, .ref z36, .ref z37, .ref z38, .ref z39, .ref z40, .ref z41, .ref z42, .ref z43, .ref z44, .ref z45, .ref z46, .ref z47, .ref z48, .int n49, .int n50, .int n51, .int n52, .int n53, .int n54, .ref z55, .ref z56, .int n57, .int n58, .ref z59, .ref z60, .ref z61, .int n62, .long n63])), (z36, .inl (γ.2.1 0, 6, .inl k0)), (z37, .inl (γ.2.1 0, 240, .inl kg0)), (z38, .inl (γ.2.1 0, 240, .inl kg1)), (z39, .inl (γ.2.1 0, 240, .inl kg2))]) := by
  refine k_ofW (by decide) (Nat.le_of_ble_eq_true rfl) ?_
  intro p e s m below meth c A ls hC hr hlocks hname hw hl
  have hx := hC.1
  have hb := hC.2.1
  have hl : lv_has ls 4 [(0, .ref z), (1, .int (nI ft)), (2, .int (nI tt))] := hl
  refine lv_aload_n hx hb dX12_laysLines_0 rfl (lv_at hl 0 rfl) ?_
  refine fg_RX12_81 hC hw 0 rfl rfl dX12_laysLines_1 ?_
  refine lv_iload_n hx hb dX12_laysLines_4 rfl (lv_at hl 2 rfl) ?_
  refine lv_aload_n hx hb dX12_laysLines_5 rfl (lv_at hl 0 rfl) ?_
  refine fg_RX12_81 hC hw 0 rfl rfl dX12_laysLines_6 ?_
  refine lv_iload_n hx hb dX12_laysLines_9 rfl (lv_at hl 1 rfl) ?_
  refine k_iald hC hw 1 rfl (vp_in_nI h1 (by decide)) dX12_laysLines_10 ?_
  refine lv_topi (fun x_1314 ex_1314 => ?_)
  refine k_iast hC hw 1 rfl (vp_in_nI h2 (by decide)) dX12_laysLines_11 (fun H locs hw => ?_)
  obtain ⟨f_1315, ef_1315⟩ : ∃ g, g = upd fl ((nI tt) : Int32).toNatClampNeg x_1314 := ⟨_, rfl⟩
  have hw : kW γ A [(z, .inr (11, [.int n0, .int n1, .ref z2, .int n3, .int n4, .int n5, .int n6, .long n7, .int n8, .int n9, .ref z10, .ref z11, .ref z12, .ref z13, .ref z14, .ref z15, .ref z16, .ref z17, .ref z18, .ref z19, .int n20, .int n21, .ref z22, .ref z23, .ref z24, .ref z25, .ref z26, .ref z27, .ref z28, .ref z29, .ref z30, .ref z31, .ref z32, .ref z33, .int n34, .long n35, .ref z36, .ref z37, .ref z38, .ref z39, .ref z40, .ref z41, .ref z42, .ref z43, .ref z44, .ref z45, .ref z46, .ref z47, .ref z48, .int n49, .int n50, .int n51, .int n52, .int n53, .int n54, .ref z55, .ref z56, .int n57, .int n58, .ref z59, .ref z60, .ref z61, .int n62, .long n63])), (z36, .inl (γ.2.1 0, 6, .inl f_1315)), (z37, .inl (γ.2.1 0, 240, .inl g0)), (z38, .inl (γ.2.1 0, 240, .inl g1)), (z39, .inl (γ.2.1 0, 240, .inl g2))] s H locs := by rw [ef_1315]; exact hw
  refine lv_iconst (v := 0) hx hb dX12_laysLines_12 (by decide) ?_
  refine lv_istore_n (lv' := [(3, .int 0), (0, .ref z), (1, .int (nI ft)), (2, .int (nI tt))]) hx hb dX12_laysLines_13 rfl hl (by decide) rfl (fun ls hl => ?_)
  exact lp_laysLines z z2 z10 z11 z12 z13 z14 z15 z16 z17 z18 z19 z22 z23 z24 z25 z26 z27 z28 z29 z30 z31 z32 z33 z36 z37 z38 z39 z40 z41 z42 z43 z44 z45 z46 z47 z48 z55 z56 z59 z60 z61 n0 n1 n3 n4 n5 n6 n7 n8 n9 n20 n21 n34 n35 n49 n50 n51 n52 n53 n54 n57 n58 n62 n63 f_1315 ft tt h1 h2 hC hr hlocks 41 0 g0 g1 g2 (by omega) (by omega) _ _ hw _ (lv_sub hl [0, 1, 2, 3] rfl)

set_option maxHeartbeats 4000000 in
set_option maxRecDepth 100000 in
theorem lp_laysGuesses {γ : kΓ} {l : Launch} {p : Program} {e : Env} {s : State} {m : MethodId} {below : List Frame} {meth : Method} {c : Code} {A : Nat → Prop} (z : Nat) (z2 : Nat) (z10 : Nat) (z11 : Nat) (z12 : Nat) (z13 : Nat) (z14 : Nat) (z15 : Nat) (z16 : Nat) (z17 : Nat) (z18 : Nat) (z19 : Nat) (z22 : Nat) (z23 : Nat) (z24 : Nat) (z25 : Nat) (z26 : Nat) (z27 : Nat) (z28 : Nat) (z29 : Nat) (z30 : Nat) (z31 : Nat) (z32 : Nat) (z33 : Nat) (z36 : Nat) (z37 : Nat) (z38 : Nat) (z39 : Nat) (z40 : Nat) (z41 : Nat) (z42 : Nat) (z43 : Nat) (z44 : Nat) (z45 : Nat) (z46 : Nat) (z47 : Nat) (z48 : Nat) (z55 : Nat) (z56 : Nat) (z59 : Nat) (z60 : Nat) (z61 : Nat) (n0 : Int32) (n1 : Int32) (n3 : Int32) (n4 : Int32) (n5 : Int32) (n6 : Int32) (n7 : Int64) (n8 : Int32) (n9 : Int32) (n20 : Int32) (n21 : Int32) (n34 : Int32) (n35 : Int64) (n49 : Int32) (n50 : Int32) (n51 : Int32) (n52 : Int32) (n53 : Int32) (n54 : Int32) (n57 : Int32) (n58 : Int32) (n62 : Int32) (n63 : Int64) (fl : Nat → Int32) (ft : Nat) (tt : Nat) (h1 : ft < 5) (h2 : tt < 5) (hC : kC γ p s m [.ref z, .int (nI ft), .int (nI tt)].toArray c cX12_laysGuesses 4 RX12 A) (hr : meth.sig.returnType = none) (hlocks : meth.locks = false) : ∀ (k : Nat) (i : Nat) (g0 : Nat → Int32) (g1 : Nat → Int32), 8 - i < k → (i ≤ 8) → ∀ (H : Heap) (locs : List Loc), kW γ A [(z, .inr (11, [.int n0, .int n1, .ref z2, .int n3, .int n4, .int n5, .int n6, .long n7, .int n8, .int n9, .ref z10, .ref z11, .ref z12, .ref z13, .ref z14, .ref z15, .ref z16, .ref z17, .ref z18, .ref z19, .int n20, .int n21, .ref z22, .ref z23, .ref z24, .ref z25, .ref z26, .ref z27, .ref z28, .ref z29, .ref z30, .ref z31, .ref z32, .ref z33, .int n34, .long n35, .ref z36, .ref z37, .ref z38, .ref z39, .ref z40, .ref z41, .ref z42, .ref z43, .ref z44, .ref z45, .ref z46, .ref z47, .ref z48, .int n49, .int n50, .int n51, .int n52, .int n53, .int n54, .ref z55, .ref z56, .int n57, .int n58, .ref z59, .ref z60, .ref z61, .int n62, .long n63])), (z40, .inl (γ.2.1 0, 5, .inl fl)), (z41, .inl (γ.2.1 0, 40, .inl g0)), (z42, .inl (γ.2.1 3, 40, .inl g1))] s H locs → ∀ ls : Array Slot, lv_has ls 4 [(3, .int (nI i)), (0, .ref z), (1, .int (nI ft)), (2, .int (nI tt))] → W p l e ({ frames := 0, cells := 0, slots := 0, locals := 0 } : Room) s m [.ref z, .int (nI ft), .int (nI tt)].toArray below meth c H locs 0 0 (MQ below (kQ γ A (fun r w1 => ∃ (k0 : Nat → Int32), ∃ (kg0 : Nat → Int32), ∃ (kg1 : Nat → Int32), r = none ∧ w1 = [(z, .inr (11, [.int n0, .int n1, .ref z2, .int n3, .int n4, .int n5, .int n6, .long n7, .int n8, .int n9, .ref z10, .ref z11, .ref z12, .ref z13, .ref z14, .ref z15, .ref z16, .ref z17, .ref z18, .ref z19, .int n20, .int n21, .ref z22, .ref z23, .ref z24, .ref z25, .ref z26, .ref z27, .ref z28, .ref z29, .ref z30, .ref z31, .ref z32, .ref z33, .int n34, .long n35, .ref z36, .ref z37, .ref z38, .ref z39, .ref z40, .ref z41, .ref z42, .ref z43, .ref z44, .ref z45, .ref z46, .ref z47, .ref z48, .int n49, .int n50, .int n51, .int n52, .int n53, .int n54, .ref z55, .ref z56, .int n57, .int n58, .ref z59, .ref z60, .ref z61, .int n62, .long n63])), (z40, .inl (γ.2.1 0, 5, .inl k0)), (z41, .inl (γ.2.1 0, 40, .inl kg0)), (z42, .inl (γ.2.1 3, 40, .inl kg1))])) [.ref z, .int (nI ft), .int (nI tt)].toArray s 0 0 A) (F0 m 14 ls []) := by
  have hx := hC.1
  have hb := hC.2.1
  intro k
  induction k with
  | zero => intro i g0 g1 hk; exact absurd hk (Nat.not_lt_zero _)
  | succ k ih =>
    intro i g0 g1 hk hi H locs hw ls hl
    refine lv_iload_n hx hb dX12_laysGuesses_14 rfl (lv_at hl 0 rfl) ?_
    refine lv_bipush (v := 8) hx hb dX12_laysGuesses_15 (by decide) ?_
    refine lv_icmp_ge (tgt := 70) hx hb dX12_laysGuesses_17 (by decide) (fun c1 => ?_) (fun c1 => ?_)
    · have hi9 : i = 8 := by have h9 := (nI_leI (a := 8) (b := i) (by omega) (by omega)).mp c1; omega
      exact k_vret hC hr hlocks hw [0, 1, 2, 3] rfl rfl ⟨fl, g0, g1, rfl, rfl⟩ (by decide) (by decide) dX12_laysGuesses_70
    · have hi9 : i < 8 := by rcases Nat.lt_or_ge i 8 with h9 | h9; exact h9; exact absurd (nI_le h9 (by omega)) c1
      refine lv_aload_n hx hb dX12_laysGuesses_20 rfl (lv_at hl 1 rfl) ?_
      refine fg_RX12_96 hC hw 0 rfl rfl dX12_laysGuesses_21 ?_
      refine lv_bipush (v := 8) hx hb dX12_laysGuesses_24 (by decide) ?_
      refine lv_iload_n hx hb dX12_laysGuesses_26 rfl (lv_at hl 3 rfl) ?_
      refine lv_imul hx hb dX12_laysGuesses_27 ?_
      refine lv_topi (fun x_1316 ex_1316 => ?_)
      obtain rfl : x_1316 = (nI (8 * tt)) := ex_1316.trans (pk_mul 8 tt)
      refine lv_iload_n hx hb dX12_laysGuesses_28 rfl (lv_at hl 0 rfl) ?_
      refine lv_iadd hx hb dX12_laysGuesses_29 ?_
      refine lv_topi (fun x_1317 ex_1317 => ?_)
      obtain rfl : x_1317 = (nI (8 * tt + i)) := ex_1317.trans (nI_add (8 * tt) i)
      refine lv_aload_n hx hb dX12_laysGuesses_30 rfl (lv_at hl 1 rfl) ?_
      refine fg_RX12_96 hC hw 0 rfl rfl dX12_laysGuesses_31 ?_
      refine lv_bipush (v := 8) hx hb dX12_laysGuesses_34 (by decide) ?_
      refine lv_iload_n hx hb dX12_laysGuesses_36 rfl (lv_at hl 2 rfl) ?_
      refine lv_imul hx hb dX12_laysGuesses_37 ?_
      refine lv_topi (fun x_1318 ex_1318 => ?_)
      obtain rfl : x_1318 = (nI (8 * ft)) := ex_1318.trans (pk_mul 8 ft)
      refine lv_iload_n hx hb dX12_laysGuesses_38 rfl (lv_at hl 0 rfl) ?_
      refine lv_iadd hx hb dX12_laysGuesses_39 ?_
      refine lv_topi (fun x_1319 ex_1319 => ?_)
      obtain rfl : x_1319 = (nI (8 * ft + i)) := ex_1319.trans (nI_add (8 * ft) i)
      refine k_iald hC hw 2 rfl (vp_in_nI (by omega) (by decide)) dX12_laysGuesses_40 ?_
      refine lv_topi (fun x_1320 ex_1320 => ?_)
      refine k_iast hC hw 2 rfl (vp_in_nI (by omega) (by decide)) dX12_laysGuesses_41 (fun H locs hw => ?_)
      obtain ⟨f_1321, ef_1321⟩ : ∃ g, g = upd g0 ((nI (8 * tt + i)) : Int32).toNatClampNeg x_1320 := ⟨_, rfl⟩
      have hw : kW γ A [(z, .inr (11, [.int n0, .int n1, .ref z2, .int n3, .int n4, .int n5, .int n6, .long n7, .int n8, .int n9, .ref z10, .ref z11, .ref z12, .ref z13, .ref z14, .ref z15, .ref z16, .ref z17, .ref z18, .ref z19, .int n20, .int n21, .ref z22, .ref z23, .ref z24, .ref z25, .ref z26, .ref z27, .ref z28, .ref z29, .ref z30, .ref z31, .ref z32, .ref z33, .int n34, .long n35, .ref z36, .ref z37, .ref z38, .ref z39, .ref z40, .ref z41, .ref z42, .ref z43, .ref z44, .ref z45, .ref z46, .ref z47, .ref z48, .int n49, .int n50, .int n51, .int n52, .int n53, .int n54, .ref z55, .ref z56, .int n57, .int n58, .ref z59, .ref z60, .ref z61, .int n62, .long n63])), (z40, .inl (γ.2.1 0, 5, .inl fl)), (z41, .inl (γ.2.1 0, 40, .inl f_1321)), (z42, .inl (γ.2.1 3, 40, .inl g1))] s H locs := by rw [ef_1321]; exact hw
      refine lv_aload_n hx hb dX12_laysGuesses_42 rfl (lv_at hl 1 rfl) ?_
      refine fg_RX12_99 hC hw 0 rfl rfl dX12_laysGuesses_43 ?_
      refine lv_bipush (v := 8) hx hb dX12_laysGuesses_46 (by decide) ?_
      refine lv_iload_n hx hb dX12_laysGuesses_48 rfl (lv_at hl 3 rfl) ?_
      refine lv_imul hx hb dX12_laysGuesses_49 ?_
      refine lv_topi (fun x_1322 ex_1322 => ?_)
      obtain rfl : x_1322 = (nI (8 * tt)) := ex_1322.trans (pk_mul 8 tt)
      refine lv_iload_n hx hb dX12_laysGuesses_50 rfl (lv_at hl 0 rfl) ?_
      refine lv_iadd hx hb dX12_laysGuesses_51 ?_
      refine lv_topi (fun x_1323 ex_1323 => ?_)
      obtain rfl : x_1323 = (nI (8 * tt + i)) := ex_1323.trans (nI_add (8 * tt) i)
      refine lv_aload_n hx hb dX12_laysGuesses_52 rfl (lv_at hl 1 rfl) ?_
      refine fg_RX12_99 hC hw 0 rfl rfl dX12_laysGuesses_53 ?_
      refine lv_bipush (v := 8) hx hb dX12_laysGuesses_56 (by decide) ?_
      refine lv_iload_n hx hb dX12_laysGuesses_58 rfl (lv_at hl 2 rfl) ?_
      refine lv_imul hx hb dX12_laysGuesses_59 ?_
      refine lv_topi (fun x_1324 ex_1324 => ?_)
      obtain rfl : x_1324 = (nI (8 * ft)) := ex_1324.trans (pk_mul 8 ft)
      refine lv_iload_n hx hb dX12_laysGuesses_60 rfl (lv_at hl 0 rfl) ?_
      refine lv_iadd hx hb dX12_laysGuesses_61 ?_
      refine lv_topi (fun x_1325 ex_1325 => ?_)
      obtain rfl : x_1325 = (nI (8 * ft + i)) := ex_1325.trans (nI_add (8 * ft) i)
      refine k_zald hC hw 3 rfl (vp_in_nI (by omega) (by decide)) dX12_laysGuesses_62 ?_
      refine lv_topi (fun x_1326 ex_1326 => ?_)
      refine k_zast hC hw 3 rfl (vp_in_nI (by omega) (by decide)) dX12_laysGuesses_63 (fun H locs hw => ?_)
      obtain ⟨f_1327, ef_1327⟩ : ∃ g, g = upd g1 ((nI (8 * tt + i)) : Int32).toNatClampNeg (vp_nar .boolean x_1326) := ⟨_, rfl⟩
      have hw : kW γ A [(z, .inr (11, [.int n0, .int n1, .ref z2, .int n3, .int n4, .int n5, .int n6, .long n7, .int n8, .int n9, .ref z10, .ref z11, .ref z12, .ref z13, .ref z14, .ref z15, .ref z16, .ref z17, .ref z18, .ref z19, .int n20, .int n21, .ref z22, .ref z23, .ref z24, .ref z25, .ref z26, .ref z27, .ref z28, .ref z29, .ref z30, .ref z31, .ref z32, .ref z33, .int n34, .long n35, .ref z36, .ref z37, .ref z38, .ref z39, .ref z40, .ref z41, .ref z42, .ref z43, .ref z44, .ref z45, .ref z46, .ref z47, .ref z48, .int n49, .int n50, .int n51, .int n52, .int n53, .int n54, .ref z55, .ref z56, .int n57, .int n58, .ref z59, .ref z60, .ref z61, .int n62, .long n63])), (z40, .inl (γ.2.1 0, 5, .inl fl)), (z41, .inl (γ.2.1 0, 40, .inl f_1321)), (z42, .inl (γ.2.1 3, 40, .inl f_1327))] s H locs := by rw [ef_1327]; exact hw
      refine lv_iinc (v := (nI (i + 1))) (lv' := [(3, .int (nI (i + 1))), (0, .ref z), (1, .int (nI ft)), (2, .int (nI tt))]) hx hb dX12_laysGuesses_64 hl (k := 0) rfl (nI_1 i) (by decide) rfl (fun ls hl => ?_)
      refine lv_goto (tgt := 14) hx hb dX12_laysGuesses_67 (by decide) ?_
      exact ih (i + 1) f_1321 f_1327 (by omega) (by omega) _ _ (kW.sub hw [0, 1, 2, 3] rfl rfl) _ (lv_sub hl [0, 1, 2, 3] rfl)

set_option maxHeartbeats 4000000 in
set_option maxRecDepth 100000 in
theorem c_X12_laysGuesses (γ : kΓ) (l : Launch) (z : Nat) (z2 : Nat) (z10 : Nat) (z11 : Nat) (z12 : Nat) (z13 : Nat) (z14 : Nat) (z15 : Nat) (z16 : Nat) (z17 : Nat) (z18 : Nat) (z19 : Nat) (z22 : Nat) (z23 : Nat) (z24 : Nat) (z25 : Nat) (z26 : Nat) (z27 : Nat) (z28 : Nat) (z29 : Nat) (z30 : Nat) (z31 : Nat) (z32 : Nat) (z33 : Nat) (z36 : Nat) (z37 : Nat) (z38 : Nat) (z39 : Nat) (z40 : Nat) (z41 : Nat) (z42 : Nat) (z43 : Nat) (z44 : Nat) (z45 : Nat) (z46 : Nat) (z47 : Nat) (z48 : Nat) (z55 : Nat) (z56 : Nat) (z59 : Nat) (z60 : Nat) (z61 : Nat) (n0 : Int32) (n1 : Int32) (n3 : Int32) (n4 : Int32) (n5 : Int32) (n6 : Int32) (n7 : Int64) (n8 : Int32) (n9 : Int32) (n20 : Int32) (n21 : Int32) (n34 : Int32) (n35 : Int64) (n49 : Int32) (n50 : Int32) (n51 : Int32) (n52 : Int32) (n53 : Int32) (n54 : Int32) (n57 : Int32) (n58 : Int32) (n62 : Int32) (n63 : Int64) (fl : Nat → Int32) (g0 : Nat → Int32) (g1 : Nat → Int32) (ft : Nat) (tt : Nat) (h1 : ft < 5) (h2 : tt < 5) : kM γ l yX12_laysGuesses cX12_laysGuesses 4 none ({ frames := 0, cells := 0, slots := 0, locals := 0 } : Room) [.ref z, .int (nI ft), .int (nI tt)] [(z, .inr (11, [.int n0, .int n1, .ref z2, .int n3, .int n4, .int n5, .int n6, .long n7, .int n8, .int n9, .ref z10, .ref z11, .ref z12, .ref z13, .ref z14, .ref z15, .ref z16, .ref z17, .ref z18, .ref z19, .int n20, .int n21, .ref z22, .ref z23, .ref z24, .ref z25, .ref z26, .ref z27, .ref z28, .ref z29, .ref z30, .ref z31, .ref z32, .ref z33, .int n34, .long n35, .ref z36, .ref z37, .ref z38, .ref z39, .ref z40, .ref z41, .ref z42, .ref z43, .ref z44, .ref z45, .ref z46, .ref z47, .ref z48, .int n49, .int n50, .int n51, .int n52, .int n53, .int n54, .ref z55, .ref z56, .int n57, .int n58, .ref z59, .ref z60, .ref z61, .int n62, .long n63])), (z40, .inl (γ.2.1 0, 5, .inl fl)), (z41, .inl (γ.2.1 0, 40, .inl g0)), (z42, .inl (γ.2.1 3, 40, .inl g1))] (fun r w1 => ∃ (k0 : Nat → Int32), ∃ (kg0 : Nat → Int32), ∃ (kg1 : Nat → Int32), r = none ∧ w1 = [(z, .inr (11, [.int n0, .int n1, .ref z2, .int n3, .int n4, .int n5, .int n6, .long n7, .int n8, .int n9, .ref z10, .ref z11, .ref z12, .ref z13, .ref z14, .ref z15, .ref z16, .ref z17, .ref z18, .ref z19, .int n20, .int n21, .ref z22, .ref z23, .ref z24, .ref z25, .ref z26, .ref z27, .ref z28, .ref z29, .ref z30, .ref z31, .ref z32, .ref z33, .int n34, .long n35, .ref z36, .ref z37, .ref z38, .ref z39, .ref z40, .ref z41, .ref z42, .ref z43, .ref z44, .ref z45, .ref z46, .ref z47, .ref z48, .int n49, .int n50, .int n51, .int n52, .int n53, .int n54, .ref z55, .ref z56, .int n57, .int n58, .ref z59, .ref z60, .ref z61, .int n62, .long n63])), (z40, .inl (γ.2.1 0, 5, .inl k0)), (z41, .inl (γ.2.1 0, 40, .inl kg0)), (z42, .inl (γ.2.1 3, 40, .inl kg1))]) := by
  refine k_ofW (by decide) (Nat.le_of_ble_eq_true rfl) ?_
  intro p e s m below meth c A ls hC hr hlocks hname hw hl
  have hx := hC.1
  have hb := hC.2.1
  have hl : lv_has ls 4 [(0, .ref z), (1, .int (nI ft)), (2, .int (nI tt))] := hl
  refine lv_aload_n hx hb dX12_laysGuesses_0 rfl (lv_at hl 0 rfl) ?_
  refine fg_RX12_93 hC hw 0 rfl rfl dX12_laysGuesses_1 ?_
  refine lv_iload_n hx hb dX12_laysGuesses_4 rfl (lv_at hl 2 rfl) ?_
  refine lv_aload_n hx hb dX12_laysGuesses_5 rfl (lv_at hl 0 rfl) ?_
  refine fg_RX12_93 hC hw 0 rfl rfl dX12_laysGuesses_6 ?_
  refine lv_iload_n hx hb dX12_laysGuesses_9 rfl (lv_at hl 1 rfl) ?_
  refine k_iald hC hw 1 rfl (vp_in_nI h1 (by decide)) dX12_laysGuesses_10 ?_
  refine lv_topi (fun x_1328 ex_1328 => ?_)
  refine k_iast hC hw 1 rfl (vp_in_nI h2 (by decide)) dX12_laysGuesses_11 (fun H locs hw => ?_)
  obtain ⟨f_1329, ef_1329⟩ : ∃ g, g = upd fl ((nI tt) : Int32).toNatClampNeg x_1328 := ⟨_, rfl⟩
  have hw : kW γ A [(z, .inr (11, [.int n0, .int n1, .ref z2, .int n3, .int n4, .int n5, .int n6, .long n7, .int n8, .int n9, .ref z10, .ref z11, .ref z12, .ref z13, .ref z14, .ref z15, .ref z16, .ref z17, .ref z18, .ref z19, .int n20, .int n21, .ref z22, .ref z23, .ref z24, .ref z25, .ref z26, .ref z27, .ref z28, .ref z29, .ref z30, .ref z31, .ref z32, .ref z33, .int n34, .long n35, .ref z36, .ref z37, .ref z38, .ref z39, .ref z40, .ref z41, .ref z42, .ref z43, .ref z44, .ref z45, .ref z46, .ref z47, .ref z48, .int n49, .int n50, .int n51, .int n52, .int n53, .int n54, .ref z55, .ref z56, .int n57, .int n58, .ref z59, .ref z60, .ref z61, .int n62, .long n63])), (z40, .inl (γ.2.1 0, 5, .inl f_1329)), (z41, .inl (γ.2.1 0, 40, .inl g0)), (z42, .inl (γ.2.1 3, 40, .inl g1))] s H locs := by rw [ef_1329]; exact hw
  refine lv_iconst (v := 0) hx hb dX12_laysGuesses_12 (by decide) ?_
  refine lv_istore_n (lv' := [(3, .int 0), (0, .ref z), (1, .int (nI ft)), (2, .int (nI tt))]) hx hb dX12_laysGuesses_13 rfl hl (by decide) rfl (fun ls hl => ?_)
  exact lp_laysGuesses z z2 z10 z11 z12 z13 z14 z15 z16 z17 z18 z19 z22 z23 z24 z25 z26 z27 z28 z29 z30 z31 z32 z33 z36 z37 z38 z39 z40 z41 z42 z43 z44 z45 z46 z47 z48 z55 z56 z59 z60 z61 n0 n1 n3 n4 n5 n6 n7 n8 n9 n20 n21 n34 n35 n49 n50 n51 n52 n53 n54 n57 n58 n62 n63 f_1329 ft tt h1 h2 hC hr hlocks 9 0 g0 g1 (by omega) (by omega) _ _ hw _ (lv_sub hl [0, 1, 2, 3] rfl)


/-! the model's guesses copied, exactly -/
def lgP (f : Nat → Int32) (a b i : Nat) : Nat → Int32 := fun k => if 8 * b ≤ k ∧ k < 8 * b + i then f (8 * a + (k - 8 * b)) else f k
def lgZ (f : Nat → Int32) (a b i : Nat) : Nat → Int32 := fun k => if 8 * b ≤ k ∧ k < 8 * b + i then vp_nar .boolean (f (8 * a + (k - 8 * b))) else f k
theorem lgP_0 {f : Nat → Int32} {a b : Nat} : f = lgP f a b 0 := funext fun k => (if_neg (by omega)).symm
theorem lgZ_0 {f : Nat → Int32} {a b : Nat} : f = lgZ f a b 0 := funext fun k => (if_neg (by omega)).symm
theorem lgP_step {f : Nat → Int32} {a b i : Nat} (hab : a ≠ b) (ha : a < 5) (hb : b < 5) (hi : i < 8) : upd (lgP f a b i) (nI (8 * b + i) : Int32).toNatClampNeg (lgP f a b i (8 * a + i)) = lgP f a b (i + 1) := by
  rw [nI_clamp (by omega)]
  funext k
  unfold upd lgP
  by_cases h : k = 8 * b + i
  · subst h
    rw [if_pos rfl, if_neg (by omega), if_pos (by omega)]
    exact congrArg f (by omega)
  · rw [if_neg h]
    by_cases h2 : 8 * b ≤ k ∧ k < 8 * b + i
    · rw [if_pos h2, if_pos (by omega)]
    · rw [if_neg h2, if_neg (by omega)]
theorem lgZ_step {f : Nat → Int32} {a b i : Nat} (hab : a ≠ b) (ha : a < 5) (hb : b < 5) (hi : i < 8) : upd (lgZ f a b i) (nI (8 * b + i) : Int32).toNatClampNeg (vp_nar .boolean (lgZ f a b i (8 * a + i))) = lgZ f a b (i + 1) := by
  rw [nI_clamp (by omega)]
  funext k
  unfold upd lgZ
  by_cases h : k = 8 * b + i
  · subst h
    rw [if_pos rfl, if_neg (by omega), if_pos (by omega)]
    exact congrArg (fun q => vp_nar .boolean (f q)) (by omega)
  · rw [if_neg h]
    by_cases h2 : 8 * b ≤ k ∧ k < 8 * b + i
    · rw [if_pos h2, if_pos (by omega)]
    · rw [if_neg h2, if_neg (by omega)]
theorem nI_3 {m : Nat} (h : m < 4) : ¬ 3 < nI m := by
  rw [Int32.lt_iff_toInt_lt, nI_toInt (by omega), show (3 : Int32).toInt = 3 from by decide]
  omega
theorem lt_34 {th : Int32} (h : ¬ th < 4) : 3 < th := by
  rw [Int32.lt_iff_toInt_lt, show (4 : Int32).toInt = 4 from by decide] at h
  rw [Int32.lt_iff_toInt_lt, show (3 : Int32).toInt = 3 from by decide]
  omega
theorem dX12_laysGuesses_0 : decode cX12_laysGuesses 0 = .ok (.aload_n 0, 1) := by decide +kernel
theorem dX12_laysGuesses_1 : decode cX12_laysGuesses 1 = .ok (.getfield 93, 3) := by decide +kernel
theorem dX12_laysGuesses_4 : decode cX12_laysGuesses 4 = .ok (.iload_n 2, 1) := by decide +kernel
theorem dX12_laysGuesses_5 : decode cX12_laysGuesses 5 = .ok (.aload_n 0, 1) := by decide +kernel
theorem dX12_laysGuesses_6 : decode cX12_laysGuesses 6 = .ok (.getfield 93, 3) := by decide +kernel
theorem dX12_laysGuesses_9 : decode cX12_laysGuesses 9 = .ok (.iload_n 1, 1) := by decide +kernel
theorem dX12_laysGuesses_10 : decode cX12_laysGuesses 10 = .ok (.iaload, 1) := by decide +kernel
theorem dX12_laysGuesses_11 : decode cX12_laysGuesses 11 = .ok (.iastore, 1) := by decide +kernel
theorem dX12_laysGuesses_12 : decode cX12_laysGuesses 12 = .ok (.iconst 0, 1) := by decide +kernel
theorem dX12_laysGuesses_13 : decode cX12_laysGuesses 13 = .ok (.istore_n 3, 1) := by decide +kernel
theorem dX12_laysGuesses_14 : decode cX12_laysGuesses 14 = .ok (.iload_n 3, 1) := by decide +kernel
theorem dX12_laysGuesses_15 : decode cX12_laysGuesses 15 = .ok (.bipush 8, 2) := by decide +kernel
theorem dX12_laysGuesses_17 : decode cX12_laysGuesses 17 = .ok (.if_icmp .ge 53, 3) := by decide +kernel
theorem dX12_laysGuesses_20 : decode cX12_laysGuesses 20 = .ok (.aload_n 0, 1) := by decide +kernel
theorem dX12_laysGuesses_21 : decode cX12_laysGuesses 21 = .ok (.getfield 96, 3) := by decide +kernel
theorem dX12_laysGuesses_24 : decode cX12_laysGuesses 24 = .ok (.bipush 8, 2) := by decide +kernel
theorem dX12_laysGuesses_26 : decode cX12_laysGuesses 26 = .ok (.iload_n 2, 1) := by decide +kernel
theorem dX12_laysGuesses_27 : decode cX12_laysGuesses 27 = .ok (.imul, 1) := by decide +kernel
theorem dX12_laysGuesses_28 : decode cX12_laysGuesses 28 = .ok (.iload_n 3, 1) := by decide +kernel
theorem dX12_laysGuesses_29 : decode cX12_laysGuesses 29 = .ok (.iadd, 1) := by decide +kernel
theorem dX12_laysGuesses_30 : decode cX12_laysGuesses 30 = .ok (.aload_n 0, 1) := by decide +kernel
theorem dX12_laysGuesses_31 : decode cX12_laysGuesses 31 = .ok (.getfield 96, 3) := by decide +kernel
theorem dX12_laysGuesses_34 : decode cX12_laysGuesses 34 = .ok (.bipush 8, 2) := by decide +kernel
theorem dX12_laysGuesses_36 : decode cX12_laysGuesses 36 = .ok (.iload_n 1, 1) := by decide +kernel
theorem dX12_laysGuesses_37 : decode cX12_laysGuesses 37 = .ok (.imul, 1) := by decide +kernel
theorem dX12_laysGuesses_38 : decode cX12_laysGuesses 38 = .ok (.iload_n 3, 1) := by decide +kernel
theorem dX12_laysGuesses_39 : decode cX12_laysGuesses 39 = .ok (.iadd, 1) := by decide +kernel
theorem dX12_laysGuesses_40 : decode cX12_laysGuesses 40 = .ok (.iaload, 1) := by decide +kernel
theorem dX12_laysGuesses_41 : decode cX12_laysGuesses 41 = .ok (.iastore, 1) := by decide +kernel
theorem dX12_laysGuesses_42 : decode cX12_laysGuesses 42 = .ok (.aload_n 0, 1) := by decide +kernel
theorem dX12_laysGuesses_43 : decode cX12_laysGuesses 43 = .ok (.getfield 99, 3) := by decide +kernel
theorem dX12_laysGuesses_46 : decode cX12_laysGuesses 46 = .ok (.bipush 8, 2) := by decide +kernel
theorem dX12_laysGuesses_48 : decode cX12_laysGuesses 48 = .ok (.iload_n 2, 1) := by decide +kernel
theorem dX12_laysGuesses_49 : decode cX12_laysGuesses 49 = .ok (.imul, 1) := by decide +kernel
theorem dX12_laysGuesses_50 : decode cX12_laysGuesses 50 = .ok (.iload_n 3, 1) := by decide +kernel
theorem dX12_laysGuesses_51 : decode cX12_laysGuesses 51 = .ok (.iadd, 1) := by decide +kernel
theorem dX12_laysGuesses_52 : decode cX12_laysGuesses 52 = .ok (.aload_n 0, 1) := by decide +kernel
theorem dX12_laysGuesses_53 : decode cX12_laysGuesses 53 = .ok (.getfield 99, 3) := by decide +kernel
theorem dX12_laysGuesses_56 : decode cX12_laysGuesses 56 = .ok (.bipush 8, 2) := by decide +kernel
theorem dX12_laysGuesses_58 : decode cX12_laysGuesses 58 = .ok (.iload_n 1, 1) := by decide +kernel
theorem dX12_laysGuesses_59 : decode cX12_laysGuesses 59 = .ok (.imul, 1) := by decide +kernel
theorem dX12_laysGuesses_60 : decode cX12_laysGuesses 60 = .ok (.iload_n 3, 1) := by decide +kernel
theorem dX12_laysGuesses_61 : decode cX12_laysGuesses 61 = .ok (.iadd, 1) := by decide +kernel
theorem dX12_laysGuesses_62 : decode cX12_laysGuesses 62 = .ok (.baload, 1) := by decide +kernel
theorem dX12_laysGuesses_63 : decode cX12_laysGuesses 63 = .ok (.bastore, 1) := by decide +kernel
theorem dX12_laysGuesses_64 : decode cX12_laysGuesses 64 = .ok (.iinc 3 1, 3) := by decide +kernel
theorem dX12_laysGuesses_67 : decode cX12_laysGuesses 67 = .ok (.goto (-53), 3) := by decide +kernel
theorem dX12_laysGuesses_70 : decode cX12_laysGuesses 70 = .ok (.return_, 1) := by decide +kernel
theorem dX12_copies_0 : decode cX12_copies 0 = .ok (.iconst 0, 1) := by decide +kernel
theorem dX12_copies_1 : decode cX12_copies 1 = .ok (.istore 4, 2) := by decide +kernel
theorem dX12_copies_3 : decode cX12_copies 3 = .ok (.iload 4, 2) := by decide +kernel
theorem dX12_copies_5 : decode cX12_copies 5 = .ok (.sipush 133, 3) := by decide +kernel
theorem dX12_copies_8 : decode cX12_copies 8 = .ok (.if_icmp .ge 21, 3) := by decide +kernel
theorem dX12_copies_11 : decode cX12_copies 11 = .ok (.aload_n 2, 1) := by decide +kernel
theorem dX12_copies_12 : decode cX12_copies 12 = .ok (.iload_n 3, 1) := by decide +kernel
theorem dX12_copies_13 : decode cX12_copies 13 = .ok (.iload 4, 2) := by decide +kernel
theorem dX12_copies_15 : decode cX12_copies 15 = .ok (.iadd, 1) := by decide +kernel
theorem dX12_copies_16 : decode cX12_copies 16 = .ok (.aload_n 0, 1) := by decide +kernel
theorem dX12_copies_17 : decode cX12_copies 17 = .ok (.iload_n 1, 1) := by decide +kernel
theorem dX12_copies_18 : decode cX12_copies 18 = .ok (.iload 4, 2) := by decide +kernel
theorem dX12_copies_20 : decode cX12_copies 20 = .ok (.iadd, 1) := by decide +kernel
theorem dX12_copies_21 : decode cX12_copies 21 = .ok (.iaload, 1) := by decide +kernel
theorem dX12_copies_22 : decode cX12_copies 22 = .ok (.iastore, 1) := by decide +kernel
theorem dX12_copies_23 : decode cX12_copies 23 = .ok (.iinc 4 1, 3) := by decide +kernel
theorem dX12_copies_26 : decode cX12_copies 26 = .ok (.goto (-23), 3) := by decide +kernel
theorem dX12_copies_29 : decode cX12_copies 29 = .ok (.return_, 1) := by decide +kernel
theorem dX12_laysLines_0 : decode cX12_laysLines 0 = .ok (.aload_n 0, 1) := by decide +kernel
theorem dX12_laysLines_1 : decode cX12_laysLines 1 = .ok (.getfield 81, 3) := by decide +kernel
theorem dX12_laysLines_4 : decode cX12_laysLines 4 = .ok (.iload_n 2, 1) := by decide +kernel
theorem dX12_laysLines_5 : decode cX12_laysLines 5 = .ok (.aload_n 0, 1) := by decide +kernel
theorem dX12_laysLines_6 : decode cX12_laysLines 6 = .ok (.getfield 81, 3) := by decide +kernel
theorem dX12_laysLines_9 : decode cX12_laysLines 9 = .ok (.iload_n 1, 1) := by decide +kernel
theorem dX12_laysLines_10 : decode cX12_laysLines 10 = .ok (.iaload, 1) := by decide +kernel
theorem dX12_laysLines_11 : decode cX12_laysLines 11 = .ok (.iastore, 1) := by decide +kernel
theorem dX12_laysLines_12 : decode cX12_laysLines 12 = .ok (.iconst 0, 1) := by decide +kernel
theorem dX12_laysLines_13 : decode cX12_laysLines 13 = .ok (.istore_n 3, 1) := by decide +kernel
theorem dX12_laysLines_14 : decode cX12_laysLines 14 = .ok (.iload_n 3, 1) := by decide +kernel
theorem dX12_laysLines_15 : decode cX12_laysLines 15 = .ok (.bipush 40, 2) := by decide +kernel
theorem dX12_laysLines_17 : decode cX12_laysLines 17 = .ok (.if_icmp .ge 75, 3) := by decide +kernel
theorem dX12_laysLines_20 : decode cX12_laysLines 20 = .ok (.aload_n 0, 1) := by decide +kernel
theorem dX12_laysLines_21 : decode cX12_laysLines 21 = .ok (.getfield 84, 3) := by decide +kernel
theorem dX12_laysLines_24 : decode cX12_laysLines 24 = .ok (.bipush 40, 2) := by decide +kernel
theorem dX12_laysLines_26 : decode cX12_laysLines 26 = .ok (.iload_n 2, 1) := by decide +kernel
theorem dX12_laysLines_27 : decode cX12_laysLines 27 = .ok (.imul, 1) := by decide +kernel
theorem dX12_laysLines_28 : decode cX12_laysLines 28 = .ok (.iload_n 3, 1) := by decide +kernel
theorem dX12_laysLines_29 : decode cX12_laysLines 29 = .ok (.iadd, 1) := by decide +kernel
theorem dX12_laysLines_30 : decode cX12_laysLines 30 = .ok (.aload_n 0, 1) := by decide +kernel
theorem dX12_laysLines_31 : decode cX12_laysLines 31 = .ok (.getfield 84, 3) := by decide +kernel
theorem dX12_laysLines_34 : decode cX12_laysLines 34 = .ok (.bipush 40, 2) := by decide +kernel
theorem dX12_laysLines_36 : decode cX12_laysLines 36 = .ok (.iload_n 1, 1) := by decide +kernel
theorem dX12_laysLines_37 : decode cX12_laysLines 37 = .ok (.imul, 1) := by decide +kernel
theorem dX12_laysLines_38 : decode cX12_laysLines 38 = .ok (.iload_n 3, 1) := by decide +kernel
theorem dX12_laysLines_39 : decode cX12_laysLines 39 = .ok (.iadd, 1) := by decide +kernel
theorem dX12_laysLines_40 : decode cX12_laysLines 40 = .ok (.iaload, 1) := by decide +kernel
theorem dX12_laysLines_41 : decode cX12_laysLines 41 = .ok (.iastore, 1) := by decide +kernel
theorem dX12_laysLines_42 : decode cX12_laysLines 42 = .ok (.aload_n 0, 1) := by decide +kernel
theorem dX12_laysLines_43 : decode cX12_laysLines 43 = .ok (.getfield 87, 3) := by decide +kernel
theorem dX12_laysLines_46 : decode cX12_laysLines 46 = .ok (.bipush 40, 2) := by decide +kernel
theorem dX12_laysLines_48 : decode cX12_laysLines 48 = .ok (.iload_n 2, 1) := by decide +kernel
theorem dX12_laysLines_49 : decode cX12_laysLines 49 = .ok (.imul, 1) := by decide +kernel
theorem dX12_laysLines_50 : decode cX12_laysLines 50 = .ok (.iload_n 3, 1) := by decide +kernel
theorem dX12_laysLines_51 : decode cX12_laysLines 51 = .ok (.iadd, 1) := by decide +kernel
theorem dX12_laysLines_52 : decode cX12_laysLines 52 = .ok (.aload_n 0, 1) := by decide +kernel
theorem dX12_laysLines_53 : decode cX12_laysLines 53 = .ok (.getfield 87, 3) := by decide +kernel
theorem dX12_laysLines_56 : decode cX12_laysLines 56 = .ok (.bipush 40, 2) := by decide +kernel
theorem dX12_laysLines_58 : decode cX12_laysLines 58 = .ok (.iload_n 1, 1) := by decide +kernel
theorem dX12_laysLines_59 : decode cX12_laysLines 59 = .ok (.imul, 1) := by decide +kernel
theorem dX12_laysLines_60 : decode cX12_laysLines 60 = .ok (.iload_n 3, 1) := by decide +kernel
theorem dX12_laysLines_61 : decode cX12_laysLines 61 = .ok (.iadd, 1) := by decide +kernel
theorem dX12_laysLines_62 : decode cX12_laysLines 62 = .ok (.iaload, 1) := by decide +kernel
theorem dX12_laysLines_63 : decode cX12_laysLines 63 = .ok (.iastore, 1) := by decide +kernel
theorem dX12_laysLines_64 : decode cX12_laysLines 64 = .ok (.aload_n 0, 1) := by decide +kernel
theorem dX12_laysLines_65 : decode cX12_laysLines 65 = .ok (.getfield 90, 3) := by decide +kernel
theorem dX12_laysLines_68 : decode cX12_laysLines 68 = .ok (.bipush 40, 2) := by decide +kernel
theorem dX12_laysLines_70 : decode cX12_laysLines 70 = .ok (.iload_n 2, 1) := by decide +kernel
theorem dX12_laysLines_71 : decode cX12_laysLines 71 = .ok (.imul, 1) := by decide +kernel
theorem dX12_laysLines_72 : decode cX12_laysLines 72 = .ok (.iload_n 3, 1) := by decide +kernel
theorem dX12_laysLines_73 : decode cX12_laysLines 73 = .ok (.iadd, 1) := by decide +kernel
theorem dX12_laysLines_74 : decode cX12_laysLines 74 = .ok (.aload_n 0, 1) := by decide +kernel
theorem dX12_laysLines_75 : decode cX12_laysLines 75 = .ok (.getfield 90, 3) := by decide +kernel
theorem dX12_laysLines_78 : decode cX12_laysLines 78 = .ok (.bipush 40, 2) := by decide +kernel
theorem dX12_laysLines_80 : decode cX12_laysLines 80 = .ok (.iload_n 1, 1) := by decide +kernel
theorem dX12_laysLines_81 : decode cX12_laysLines 81 = .ok (.imul, 1) := by decide +kernel
theorem dX12_laysLines_82 : decode cX12_laysLines 82 = .ok (.iload_n 3, 1) := by decide +kernel
theorem dX12_laysLines_83 : decode cX12_laysLines 83 = .ok (.iadd, 1) := by decide +kernel
theorem dX12_laysLines_84 : decode cX12_laysLines 84 = .ok (.iaload, 1) := by decide +kernel
theorem dX12_laysLines_85 : decode cX12_laysLines 85 = .ok (.iastore, 1) := by decide +kernel
theorem dX12_laysLines_86 : decode cX12_laysLines 86 = .ok (.iinc 3 1, 3) := by decide +kernel
theorem dX12_laysLines_89 : decode cX12_laysLines 89 = .ok (.goto (-75), 3) := by decide +kernel
theorem dX12_laysLines_92 : decode cX12_laysLines 92 = .ok (.return_, 1) := by decide +kernel
theorem dX12_mark_0 : decode cX12_mark 0 = .ok (.aload_n 0, 1) := by decide +kernel
theorem dX12_mark_1 : decode cX12_mark 1 = .ok (.iconst 0, 1) := by decide +kernel
theorem dX12_mark_2 : decode cX12_mark 2 = .ok (.putfield 143, 3) := by decide +kernel
theorem dX12_mark_5 : decode cX12_mark 5 = .ok (.iload_n 1, 1) := by decide +kernel
theorem dX12_mark_6 : decode cX12_mark 6 = .ok (.iconst 0, 1) := by decide +kernel
theorem dX12_mark_7 : decode cX12_mark 7 = .ok (.iconst 3, 1) := by decide +kernel
theorem dX12_mark_8 : decode cX12_mark 8 = .ok (.invokestatic 262, 3) := by decide +kernel
theorem dX12_mark_11 : decode cX12_mark 11 = .ok (.ifCond .eq 16, 3) := by decide +kernel
theorem dX12_mark_14 : decode cX12_mark 14 = .ok (.iload_n 2, 1) := by decide +kernel
theorem dX12_mark_15 : decode cX12_mark 15 = .ok (.ifCond .eq 14, 3) := by decide +kernel
theorem dX12_mark_18 : decode cX12_mark 18 = .ok (.aload_n 0, 1) := by decide +kernel
theorem dX12_mark_19 : decode cX12_mark 19 = .ok (.getfield 117, 3) := by decide +kernel
theorem dX12_mark_22 : decode cX12_mark 22 = .ok (.iload_n 1, 1) := by decide +kernel
theorem dX12_mark_23 : decode cX12_mark 23 = .ok (.baload, 1) := by decide +kernel
theorem dX12_mark_24 : decode cX12_mark 24 = .ok (.ifCond .ne 5, 3) := by decide +kernel
theorem dX12_mark_27 : decode cX12_mark 27 = .ok (.iconst 0, 1) := by decide +kernel
theorem dX12_mark_28 : decode cX12_mark 28 = .ok (.ireturn, 1) := by decide +kernel
theorem dX12_mark_29 : decode cX12_mark 29 = .ok (.aload_n 0, 1) := by decide +kernel
theorem dX12_mark_30 : decode cX12_mark 30 = .ok (.getfield 117, 3) := by decide +kernel
theorem dX12_mark_33 : decode cX12_mark 33 = .ok (.iload_n 1, 1) := by decide +kernel
theorem dX12_mark_34 : decode cX12_mark 34 = .ok (.iconst 1, 1) := by decide +kernel
theorem dX12_mark_35 : decode cX12_mark 35 = .ok (.bastore, 1) := by decide +kernel
theorem dX12_mark_36 : decode cX12_mark 36 = .ok (.iload_n 2, 1) := by decide +kernel
theorem dX12_mark_37 : decode cX12_mark 37 = .ok (.ifCond .eq 9, 3) := by decide +kernel
theorem dX12_mark_40 : decode cX12_mark 40 = .ok (.iconst 1, 1) := by decide +kernel
theorem dX12_mark_41 : decode cX12_mark 41 = .ok (.iload_n 1, 1) := by decide +kernel
theorem dX12_mark_42 : decode cX12_mark 42 = .ok (.iadd, 1) := by decide +kernel
theorem dX12_mark_43 : decode cX12_mark 43 = .ok (.goto 4, 3) := by decide +kernel
theorem dX12_mark_46 : decode cX12_mark 46 = .ok (.iconst 0, 1) := by decide +kernel
theorem dX12_mark_47 : decode cX12_mark 47 = .ok (.istore_n 3, 1) := by decide +kernel
theorem dX12_mark_48 : decode cX12_mark 48 = .ok (.iload_n 2, 1) := by decide +kernel
theorem dX12_mark_49 : decode cX12_mark 49 = .ok (.ifCond .eq 7, 3) := by decide +kernel
theorem dX12_mark_52 : decode cX12_mark 52 = .ok (.iconst 0, 1) := by decide +kernel
theorem dX12_mark_53 : decode cX12_mark 53 = .ok (.goto 6, 3) := by decide +kernel
theorem dX12_mark_56 : decode cX12_mark 56 = .ok (.iconst 1, 1) := by decide +kernel
theorem dX12_mark_57 : decode cX12_mark 57 = .ok (.iload_n 1, 1) := by decide +kernel
theorem dX12_mark_58 : decode cX12_mark 58 = .ok (.iadd, 1) := by decide +kernel
theorem dX12_mark_59 : decode cX12_mark 59 = .ok (.istore 4, 2) := by decide +kernel
theorem dX12_mark_61 : decode cX12_mark 61 = .ok (.aload_n 0, 1) := by decide +kernel
theorem dX12_mark_62 : decode cX12_mark 62 = .ok (.iload_n 3, 1) := by decide +kernel
theorem dX12_mark_63 : decode cX12_mark 63 = .ok (.iload 4, 2) := by decide +kernel
theorem dX12_mark_65 : decode cX12_mark 65 = .ok (.invokevirtual 345, 3) := by decide +kernel
theorem dX12_mark_68 : decode cX12_mark 68 = .ok (.aload_n 0, 1) := by decide +kernel
theorem dX12_mark_69 : decode cX12_mark 69 = .ok (.iload_n 3, 1) := by decide +kernel
theorem dX12_mark_70 : decode cX12_mark 70 = .ok (.iload 4, 2) := by decide +kernel
theorem dX12_mark_72 : decode cX12_mark 72 = .ok (.invokevirtual 495, 3) := by decide +kernel
theorem dX12_mark_75 : decode cX12_mark 75 = .ok (.iload_n 2, 1) := by decide +kernel
theorem dX12_mark_76 : decode cX12_mark 76 = .ok (.ifCond .eq 28, 3) := by decide +kernel
theorem dX12_mark_79 : decode cX12_mark 79 = .ok (.aload_n 0, 1) := by decide +kernel
theorem dX12_mark_80 : decode cX12_mark 80 = .ok (.getfield 111, 3) := by decide +kernel
theorem dX12_mark_83 : decode cX12_mark 83 = .ok (.sipush 133, 3) := by decide +kernel
theorem dX12_mark_86 : decode cX12_mark 86 = .ok (.iload_n 1, 1) := by decide +kernel
theorem dX12_mark_87 : decode cX12_mark 87 = .ok (.imul, 1) := by decide +kernel
theorem dX12_mark_88 : decode cX12_mark 88 = .ok (.aload_n 0, 1) := by decide +kernel
theorem dX12_mark_89 : decode cX12_mark 89 = .ok (.getfield 102, 3) := by decide +kernel
theorem dX12_mark_92 : decode cX12_mark 92 = .ok (.iconst 0, 1) := by decide +kernel
theorem dX12_mark_93 : decode cX12_mark 93 = .ok (.invokestatic 393, 3) := by decide +kernel
theorem dX12_mark_96 : decode cX12_mark 96 = .ok (.aload_n 0, 1) := by decide +kernel
theorem dX12_mark_97 : decode cX12_mark 97 = .ok (.iconst 0, 1) := by decide +kernel
theorem dX12_mark_98 : decode cX12_mark 98 = .ok (.putfield 339, 3) := by decide +kernel
theorem dX12_mark_101 : decode cX12_mark 101 = .ok (.goto 20, 3) := by decide +kernel
theorem dX12_mark_104 : decode cX12_mark 104 = .ok (.aload_n 0, 1) := by decide +kernel
theorem dX12_mark_105 : decode cX12_mark 105 = .ok (.getfield 102, 3) := by decide +kernel
theorem dX12_mark_108 : decode cX12_mark 108 = .ok (.iconst 0, 1) := by decide +kernel
theorem dX12_mark_109 : decode cX12_mark 109 = .ok (.aload_n 0, 1) := by decide +kernel
theorem dX12_mark_110 : decode cX12_mark 110 = .ok (.getfield 111, 3) := by decide +kernel
theorem dX12_mark_113 : decode cX12_mark 113 = .ok (.sipush 133, 3) := by decide +kernel
theorem dX12_mark_116 : decode cX12_mark 116 = .ok (.iload_n 1, 1) := by decide +kernel
theorem dX12_mark_117 : decode cX12_mark 117 = .ok (.imul, 1) := by decide +kernel
theorem dX12_mark_118 : decode cX12_mark 118 = .ok (.invokestatic 393, 3) := by decide +kernel
theorem dX12_mark_121 : decode cX12_mark 121 = .ok (.iconst 1, 1) := by decide +kernel
theorem dX12_mark_122 : decode cX12_mark 122 = .ok (.ireturn, 1) := by decide +kernel
set_option maxHeartbeats 4000000 in
set_option maxRecDepth 100000 in
theorem c_wi_t (γ : kΓ) (l : Launch) (v : Int32) (lo : Int32) (hi : Int32) (h1 : ¬ v < lo) (h2 : ¬ hi < v) : kM γ l yX12_within cX12_within 3 ((some .boolean)) ({ frames := 0, cells := 0, slots := 0, locals := 0 } : Room) [.int v, .int lo, .int hi] [] (fun r w1 => r = some (.int 1) ∧ w1 = []) := by
  refine k_ofW (by decide) (Nat.le_of_ble_eq_true rfl) ?_
  intro p9 e s m below meth c A ls hC hr hlocks hname hw hl
  have hx := hC.1
  have hb := hC.2.1
  have hl : lv_has ls 3 [(0, .int v), (1, .int lo), (2, .int hi)] := hl
  refine lv_iload_n hx hb dX12_within_0 rfl (lv_at hl 0 rfl) ?_
  refine lv_iload_n hx hb dX12_within_1 rfl (lv_at hl 1 rfl) ?_
  refine lv_icmp_lt (tgt := 14) hx hb dX12_within_2 (by decide) (fun h => absurd h h1) (fun _ => ?_)
  refine lv_iload_n hx hb dX12_within_5 rfl (lv_at hl 0 rfl) ?_
  refine lv_iload_n hx hb dX12_within_6 rfl (lv_at hl 2 rfl) ?_
  refine lv_icmp_gt (tgt := 14) hx hb dX12_within_7 (by decide) (fun h => absurd h h2) (fun _ => ?_)
  refine lv_iconst (v := 1) hx hb dX12_within_10 (by decide) ?_
  refine lv_goto (tgt := 15) hx hb dX12_within_11 (by decide) ?_
  exact k_zret hC hr hlocks rfl hw [] rfl rfl ⟨rfl, rfl⟩ (by decide) (by decide) dX12_within_15

set_option maxHeartbeats 4000000 in
set_option maxRecDepth 100000 in
theorem c_wi_l (γ : kΓ) (l : Launch) (v : Int32) (lo : Int32) (hi : Int32) (h1 : v < lo) : kM γ l yX12_within cX12_within 3 ((some .boolean)) ({ frames := 0, cells := 0, slots := 0, locals := 0 } : Room) [.int v, .int lo, .int hi] [] (fun r w1 => r = some (.int 0) ∧ w1 = []) := by
  refine k_ofW (by decide) (Nat.le_of_ble_eq_true rfl) ?_
  intro p9 e s m below meth c A ls hC hr hlocks hname hw hl
  have hx := hC.1
  have hb := hC.2.1
  have hl : lv_has ls 3 [(0, .int v), (1, .int lo), (2, .int hi)] := hl
  refine lv_iload_n hx hb dX12_within_0 rfl (lv_at hl 0 rfl) ?_
  refine lv_iload_n hx hb dX12_within_1 rfl (lv_at hl 1 rfl) ?_
  refine lv_icmp_lt (tgt := 14) hx hb dX12_within_2 (by decide) (fun _ => ?_) (fun h => absurd h1 h)
  refine lv_iconst (v := 0) hx hb dX12_within_14 (by decide) ?_
  exact k_zret hC hr hlocks rfl hw [] rfl rfl ⟨rfl, rfl⟩ (by decide) (by decide) dX12_within_15

set_option maxHeartbeats 4000000 in
set_option maxRecDepth 100000 in
theorem c_wi_h (γ : kΓ) (l : Launch) (v : Int32) (lo : Int32) (hi : Int32) (h1 : ¬ v < lo) (h2 : hi < v) : kM γ l yX12_within cX12_within 3 ((some .boolean)) ({ frames := 0, cells := 0, slots := 0, locals := 0 } : Room) [.int v, .int lo, .int hi] [] (fun r w1 => r = some (.int 0) ∧ w1 = []) := by
  refine k_ofW (by decide) (Nat.le_of_ble_eq_true rfl) ?_
  intro p9 e s m below meth c A ls hC hr hlocks hname hw hl
  have hx := hC.1
  have hb := hC.2.1
  have hl : lv_has ls 3 [(0, .int v), (1, .int lo), (2, .int hi)] := hl
  refine lv_iload_n hx hb dX12_within_0 rfl (lv_at hl 0 rfl) ?_
  refine lv_iload_n hx hb dX12_within_1 rfl (lv_at hl 1 rfl) ?_
  refine lv_icmp_lt (tgt := 14) hx hb dX12_within_2 (by decide) (fun h => absurd h h1) (fun _ => ?_)
  refine lv_iload_n hx hb dX12_within_5 rfl (lv_at hl 0 rfl) ?_
  refine lv_iload_n hx hb dX12_within_6 rfl (lv_at hl 2 rfl) ?_
  refine lv_icmp_gt (tgt := 14) hx hb dX12_within_7 (by decide) (fun _ => ?_) (fun h => absurd h2 h)
  refine lv_iconst (v := 0) hx hb dX12_within_14 (by decide) ?_
  exact k_zret hC hr hlocks rfl hw [] rfl rfl ⟨rfl, rfl⟩ (by decide) (by decide) dX12_within_15

set_option maxHeartbeats 4000000 in
set_option maxRecDepth 100000 in
theorem lp_lgx {γ : kΓ} {l : Launch} {p9 : Program} {e : Env} {s : State} {m : MethodId} {below : List Frame} {meth : Method} {c : Code} {A : Nat → Prop} (z : Nat) (z2 : Nat) (z10 : Nat) (z11 : Nat) (z12 : Nat) (z13 : Nat) (z14 : Nat) (z15 : Nat) (z16 : Nat) (z17 : Nat) (z18 : Nat) (z19 : Nat) (z22 : Nat) (z23 : Nat) (z24 : Nat) (z25 : Nat) (z26 : Nat) (z27 : Nat) (z28 : Nat) (z29 : Nat) (z30 : Nat) (z31 : Nat) (z32 : Nat) (z33 : Nat) (z36 : Nat) (z37 : Nat) (z38 : Nat) (z39 : Nat) (z40 : Nat) (z41 : Nat) (z42 : Nat) (z43 : Nat) (z44 : Nat) (z45 : Nat) (z46 : Nat) (z47 : Nat) (z48 : Nat) (z55 : Nat) (z56 : Nat) (z59 : Nat) (z60 : Nat) (z61 : Nat) (n0 : Int32) (n1 : Int32) (n3 : Int32) (n4 : Int32) (n5 : Int32) (n6 : Int32) (n7 : Int64) (n8 : Int32) (n9 : Int32) (n20 : Int32) (n21 : Int32) (n34 : Int32) (n35 : Int64) (n49 : Int32) (n50 : Int32) (n51 : Int32) (n52 : Int32) (n53 : Int32) (n54 : Int32) (n57 : Int32) (n58 : Int32) (n62 : Int32) (n63 : Int64) (gs : Nat → Int32) (go : Nat → Int32) (gm : Nat → Int32) (ft : Nat) (tt : Nat) (h1 : ft < 5) (h2 : tt < 5) (hab : ft ≠ tt) (hC : kC γ p9 s m [.ref z, .int (nI ft), .int (nI tt)].toArray c cX12_laysGuesses 4 RX12 A) (hr : meth.sig.returnType = none) (hlocks : meth.locks = false) : ∀ (k : Nat) (i : Nat), 8 - i < k → (i ≤ 8) → ∀ (H : Heap) (locs : List Loc), kW γ A [(z, .inr (11, [.int n0, .int n1, .ref z2, .int n3, .int n4, .int n5, .int n6, .long n7, .int n8, .int n9, .ref z10, .ref z11, .ref z12, .ref z13, .ref z14, .ref z15, .ref z16, .ref z17, .ref z18, .ref z19, .int n20, .int n21, .ref z22, .ref z23, .ref z24, .ref z25, .ref z26, .ref z27, .ref z28, .ref z29, .ref z30, .ref z31, .ref z32, .ref z33, .int n34, .long n35, .ref z36, .ref z37, .ref z38, .ref z39, .ref z40, .ref z41, .ref z42, .ref z43, .ref z44, .ref z45, .ref z46, .ref z47, .ref z48, .int n49, .int n50, .int n51, .int n52, .int n53, .int n54, .ref z55, .ref z56, .int n57, .int n58, .ref z59, .ref z60, .ref z61, .int n62, .long n63])), (z40, .inl (γ.2.1 0, 5, .inl ((upd gs tt (gs ft))))), (z41, .inl (γ.2.1 0, 40, .inl ((lgP go ft tt i)))), (z42, .inl (γ.2.1 3, 40, .inl ((lgZ gm ft tt i))))] s H locs → ∀ ls : Array Slot, lv_has ls 4 [(3, .int (nI i)), (0, .ref z), (1, .int (nI ft)), (2, .int (nI tt))] → W p9 l e ({ frames := 0, cells := 0, slots := 0, locals := 0 } : Room) s m [.ref z, .int (nI ft), .int (nI tt)].toArray below meth c H locs 0 0 (MQ below (kQ γ A (fun r w1 => r = none ∧ w1 = [(z, .inr (11, [.int n0, .int n1, .ref z2, .int n3, .int n4, .int n5, .int n6, .long n7, .int n8, .int n9, .ref z10, .ref z11, .ref z12, .ref z13, .ref z14, .ref z15, .ref z16, .ref z17, .ref z18, .ref z19, .int n20, .int n21, .ref z22, .ref z23, .ref z24, .ref z25, .ref z26, .ref z27, .ref z28, .ref z29, .ref z30, .ref z31, .ref z32, .ref z33, .int n34, .long n35, .ref z36, .ref z37, .ref z38, .ref z39, .ref z40, .ref z41, .ref z42, .ref z43, .ref z44, .ref z45, .ref z46, .ref z47, .ref z48, .int n49, .int n50, .int n51, .int n52, .int n53, .int n54, .ref z55, .ref z56, .int n57, .int n58, .ref z59, .ref z60, .ref z61, .int n62, .long n63])), (z40, .inl (γ.2.1 0, 5, .inl ((upd gs tt (gs ft))))), (z41, .inl (γ.2.1 0, 40, .inl ((lgP go ft tt 8)))), (z42, .inl (γ.2.1 3, 40, .inl ((lgZ gm ft tt 8))))])) [.ref z, .int (nI ft), .int (nI tt)].toArray s 0 0 A) (F0 m 14 ls []) := by
  have hx := hC.1
  have hb := hC.2.1
  intro k
  induction k with
  | zero => intro i hk; exact absurd hk (Nat.not_lt_zero _)
  | succ k ih =>
    intro i hk hi H locs hw ls hl
    refine lv_iload_n hx hb dX12_laysGuesses_14 rfl (lv_at hl 0 rfl) ?_
    refine lv_bipush (v := 8) hx hb dX12_laysGuesses_15 (by decide) ?_
    refine lv_icmp_ge (tgt := 70) hx hb dX12_laysGuesses_17 (by decide) (fun c1 => ?_) (fun c1 => ?_)
    · have hi9 : i = 8 := by have h9 := (nI_leI (a := 8) (b := i) (by omega) (by omega)).mp c1; omega
      rw [hi9] at hw
      exact k_vret hC hr hlocks hw [0, 1, 2, 3] rfl rfl ⟨rfl, rfl⟩ (by decide) (by decide) dX12_laysGuesses_70
    · have hi9 : i < 8 := by rcases Nat.lt_or_ge i 8 with h9 | h9; exact h9; exact absurd (nI_le h9 (by omega)) c1
      refine lv_aload_n hx hb dX12_laysGuesses_20 rfl (lv_at hl 1 rfl) ?_
      refine fg_RX12_96 hC hw 0 rfl rfl dX12_laysGuesses_21 ?_
      refine lv_bipush (v := 8) hx hb dX12_laysGuesses_24 (by decide) ?_
      refine lv_iload_n hx hb dX12_laysGuesses_26 rfl (lv_at hl 3 rfl) ?_
      refine lv_imul hx hb dX12_laysGuesses_27 ?_
      refine lv_topi (fun x_55 ex_55 => ?_)
      obtain rfl : x_55 = (nI (8 * tt)) := ex_55.trans (pk_mul 8 tt)
      refine lv_iload_n hx hb dX12_laysGuesses_28 rfl (lv_at hl 0 rfl) ?_
      refine lv_iadd hx hb dX12_laysGuesses_29 ?_
      refine lv_topi (fun x_56 ex_56 => ?_)
      obtain rfl : x_56 = (nI (8 * tt + i)) := ex_56.trans (nI_add (8 * tt) i)
      refine lv_aload_n hx hb dX12_laysGuesses_30 rfl (lv_at hl 1 rfl) ?_
      refine fg_RX12_96 hC hw 0 rfl rfl dX12_laysGuesses_31 ?_
      refine lv_bipush (v := 8) hx hb dX12_laysGuesses_34 (by decide) ?_
      refine lv_iload_n hx hb dX12_laysGuesses_36 rfl (lv_at hl 2 rfl) ?_
      refine lv_imul hx hb dX12_laysGuesses_37 ?_
      refine lv_topi (fun x_57 ex_57 => ?_)
      obtain rfl : x_57 = (nI (8 * ft)) := ex_57.trans (pk_mul 8 ft)
      refine lv_iload_n hx hb dX12_laysGuesses_38 rfl (lv_at hl 0 rfl) ?_
      refine lv_iadd hx hb dX12_laysGuesses_39 ?_
      refine lv_topi (fun x_58 ex_58 => ?_)
      obtain rfl : x_58 = (nI (8 * ft + i)) := ex_58.trans (nI_add (8 * ft) i)
      refine k_iald hC hw 2 rfl (vp_in_nI (by omega) (by decide)) dX12_laysGuesses_40 ?_
      refine lv_topi (fun x_59 ex_59 => ?_)
      obtain rfl : x_59 = ((lgP go ft tt i)) ((8 * ft + i)) := (show x_59 = ((lgP go ft tt i)) (nI ((8 * ft + i)) : Int32).toNatClampNeg from ex_59).trans (by rw [nI_clamp (by omega)])
      refine k_iast hC hw 2 rfl (vp_in_nI (by omega) (by decide)) dX12_laysGuesses_41 (fun H locs hw => ?_)
      obtain ⟨f_60, ef_60⟩ : ∃ g, g = upd ((lgP go ft tt i)) ((nI (8 * tt + i)) : Int32).toNatClampNeg (((lgP go ft tt i)) ((8 * ft + i))) := ⟨_, rfl⟩
      have hw : kW γ A [(z, .inr (11, [.int n0, .int n1, .ref z2, .int n3, .int n4, .int n5, .int n6, .long n7, .int n8, .int n9, .ref z10, .ref z11, .ref z12, .ref z13, .ref z14, .ref z15, .ref z16, .ref z17, .ref z18, .ref z19, .int n20, .int n21, .ref z22, .ref z23, .ref z24, .ref z25, .ref z26, .ref z27, .ref z28, .ref z29, .ref z30, .ref z31, .ref z32, .ref z33, .int n34, .long n35, .ref z36, .ref z37, .ref z38, .ref z39, .ref z40, .ref z41, .ref z42, .ref z43, .ref z44, .ref z45, .ref z46, .ref z47, .ref z48, .int n49, .int n50, .int n51, .int n52, .int n53, .int n54, .ref z55, .ref z56, .int n57, .int n58, .ref z59, .ref z60, .ref z61, .int n62, .long n63])), (z40, .inl (γ.2.1 0, 5, .inl ((upd gs tt (gs ft))))), (z41, .inl (γ.2.1 0, 40, .inl f_60)), (z42, .inl (γ.2.1 3, 40, .inl ((lgZ gm ft tt i))))] s H locs := by rw [ef_60]; exact hw
      refine lv_aload_n hx hb dX12_laysGuesses_42 rfl (lv_at hl 1 rfl) ?_
      refine fg_RX12_99 hC hw 0 rfl rfl dX12_laysGuesses_43 ?_
      refine lv_bipush (v := 8) hx hb dX12_laysGuesses_46 (by decide) ?_
      refine lv_iload_n hx hb dX12_laysGuesses_48 rfl (lv_at hl 3 rfl) ?_
      refine lv_imul hx hb dX12_laysGuesses_49 ?_
      refine lv_topi (fun x_61 ex_61 => ?_)
      obtain rfl : x_61 = (nI (8 * tt)) := ex_61.trans (pk_mul 8 tt)
      refine lv_iload_n hx hb dX12_laysGuesses_50 rfl (lv_at hl 0 rfl) ?_
      refine lv_iadd hx hb dX12_laysGuesses_51 ?_
      refine lv_topi (fun x_62 ex_62 => ?_)
      obtain rfl : x_62 = (nI (8 * tt + i)) := ex_62.trans (nI_add (8 * tt) i)
      refine lv_aload_n hx hb dX12_laysGuesses_52 rfl (lv_at hl 1 rfl) ?_
      refine fg_RX12_99 hC hw 0 rfl rfl dX12_laysGuesses_53 ?_
      refine lv_bipush (v := 8) hx hb dX12_laysGuesses_56 (by decide) ?_
      refine lv_iload_n hx hb dX12_laysGuesses_58 rfl (lv_at hl 2 rfl) ?_
      refine lv_imul hx hb dX12_laysGuesses_59 ?_
      refine lv_topi (fun x_63 ex_63 => ?_)
      obtain rfl : x_63 = (nI (8 * ft)) := ex_63.trans (pk_mul 8 ft)
      refine lv_iload_n hx hb dX12_laysGuesses_60 rfl (lv_at hl 0 rfl) ?_
      refine lv_iadd hx hb dX12_laysGuesses_61 ?_
      refine lv_topi (fun x_64 ex_64 => ?_)
      obtain rfl : x_64 = (nI (8 * ft + i)) := ex_64.trans (nI_add (8 * ft) i)
      refine k_zald hC hw 3 rfl (vp_in_nI (by omega) (by decide)) dX12_laysGuesses_62 ?_
      refine lv_topi (fun x_65 ex_65 => ?_)
      obtain rfl : x_65 = ((lgZ gm ft tt i)) ((8 * ft + i)) := (show x_65 = ((lgZ gm ft tt i)) (nI ((8 * ft + i)) : Int32).toNatClampNeg from ex_65).trans (by rw [nI_clamp (by omega)])
      refine k_zast hC hw 3 rfl (vp_in_nI (by omega) (by decide)) dX12_laysGuesses_63 (fun H locs hw => ?_)
      obtain ⟨f_66, ef_66⟩ : ∃ g, g = upd ((lgZ gm ft tt i)) ((nI (8 * tt + i)) : Int32).toNatClampNeg (vp_nar .boolean (((lgZ gm ft tt i)) ((8 * ft + i)))) := ⟨_, rfl⟩
      have hw : kW γ A [(z, .inr (11, [.int n0, .int n1, .ref z2, .int n3, .int n4, .int n5, .int n6, .long n7, .int n8, .int n9, .ref z10, .ref z11, .ref z12, .ref z13, .ref z14, .ref z15, .ref z16, .ref z17, .ref z18, .ref z19, .int n20, .int n21, .ref z22, .ref z23, .ref z24, .ref z25, .ref z26, .ref z27, .ref z28, .ref z29, .ref z30, .ref z31, .ref z32, .ref z33, .int n34, .long n35, .ref z36, .ref z37, .ref z38, .ref z39, .ref z40, .ref z41, .ref z42, .ref z43, .ref z44, .ref z45, .ref z46, .ref z47, .ref z48, .int n49, .int n50, .int n51, .int n52, .int n53, .int n54, .ref z55, .ref z56, .int n57, .int n58, .ref z59, .ref z60, .ref z61, .int n62, .long n63])), (z40, .inl (γ.2.1 0, 5, .inl ((upd gs tt (gs ft))))), (z41, .inl (γ.2.1 0, 40, .inl f_60)), (z42, .inl (γ.2.1 3, 40, .inl f_66))] s H locs := by rw [ef_66]; exact hw
      refine lv_iinc (v := (nI (i + 1))) (lv' := [(3, .int (nI (i + 1))), (0, .ref z), (1, .int (nI ft)), (2, .int (nI tt))]) hx hb dX12_laysGuesses_64 hl (k := 0) rfl (nI_1 i) (by decide) rfl (fun ls hl => ?_)
      refine lv_goto (tgt := 14) hx hb dX12_laysGuesses_67 (by decide) ?_
      have hE1 : f_60 = lgP go ft tt (i + 1) := ef_60.trans (lgP_step hab h1 h2 hi9)
      have hE2 : f_66 = lgZ gm ft tt (i + 1) := ef_66.trans (lgZ_step hab h1 h2 hi9)
      rw [hE1, hE2] at hw
      exact ih (i + 1) (by omega) (by omega) _ _ (kW.sub hw [0, 1, 2, 3] rfl rfl) _ (lv_sub hl [0, 1, 2, 3] rfl)

set_option maxHeartbeats 4000000 in
set_option maxRecDepth 100000 in
theorem c_lgx (γ : kΓ) (l : Launch) (z : Nat) (z2 : Nat) (z10 : Nat) (z11 : Nat) (z12 : Nat) (z13 : Nat) (z14 : Nat) (z15 : Nat) (z16 : Nat) (z17 : Nat) (z18 : Nat) (z19 : Nat) (z22 : Nat) (z23 : Nat) (z24 : Nat) (z25 : Nat) (z26 : Nat) (z27 : Nat) (z28 : Nat) (z29 : Nat) (z30 : Nat) (z31 : Nat) (z32 : Nat) (z33 : Nat) (z36 : Nat) (z37 : Nat) (z38 : Nat) (z39 : Nat) (z40 : Nat) (z41 : Nat) (z42 : Nat) (z43 : Nat) (z44 : Nat) (z45 : Nat) (z46 : Nat) (z47 : Nat) (z48 : Nat) (z55 : Nat) (z56 : Nat) (z59 : Nat) (z60 : Nat) (z61 : Nat) (n0 : Int32) (n1 : Int32) (n3 : Int32) (n4 : Int32) (n5 : Int32) (n6 : Int32) (n7 : Int64) (n8 : Int32) (n9 : Int32) (n20 : Int32) (n21 : Int32) (n34 : Int32) (n35 : Int64) (n49 : Int32) (n50 : Int32) (n51 : Int32) (n52 : Int32) (n53 : Int32) (n54 : Int32) (n57 : Int32) (n58 : Int32) (n62 : Int32) (n63 : Int64) (gs : Nat → Int32) (go : Nat → Int32) (gm : Nat → Int32) (ft : Nat) (tt : Nat) (h1 : ft < 5) (h2 : tt < 5) (hab : ft ≠ tt) : kM γ l yX12_laysGuesses cX12_laysGuesses 4 none ({ frames := 0, cells := 0, slots := 0, locals := 0 } : Room) [.ref z, .int (nI ft), .int (nI tt)] [(z, .inr (11, [.int n0, .int n1, .ref z2, .int n3, .int n4, .int n5, .int n6, .long n7, .int n8, .int n9, .ref z10, .ref z11, .ref z12, .ref z13, .ref z14, .ref z15, .ref z16, .ref z17, .ref z18, .ref z19, .int n20, .int n21, .ref z22, .ref z23, .ref z24, .ref z25, .ref z26, .ref z27, .ref z28, .ref z29, .ref z30, .ref z31, .ref z32, .ref z33, .int n34, .long n35, .ref z36, .ref z37, .ref z38, .ref z39, .ref z40, .ref z41, .ref z42, .ref z43, .ref z44, .ref z45, .ref z46, .ref z47, .ref z48, .int n49, .int n50, .int n51, .int n52, .int n53, .int n54, .ref z55, .ref z56, .int n57, .int n58, .ref z59, .ref z60, .ref z61, .int n62, .long n63])), (z40, .inl (γ.2.1 0, 5, .inl gs)), (z41, .inl (γ.2.1 0, 40, .inl go)), (z42, .inl (γ.2.1 3, 40, .inl gm))] (fun r w1 => r = none ∧ w1 = [(z, .inr (11, [.int n0, .int n1, .ref z2, .int n3, .int n4, .int n5, .int n6, .long n7, .int n8, .int n9, .ref z10, .ref z11, .ref z12, .ref z13, .ref z14, .ref z15, .ref z16, .ref z17, .ref z18, .ref z19, .int n20, .int n21, .ref z22, .ref z23, .ref z24, .ref z25, .ref z26, .ref z27, .ref z28, .ref z29, .ref z30, .ref z31, .ref z32, .ref z33, .int n34, .long n35, .ref z36, .ref z37, .ref z38, .ref z39, .ref z40, .ref z41, .ref z42, .ref z43, .ref z44, .ref z45, .ref z46, .ref z47, .ref z48, .int n49, .int n50, .int n51, .int n52, .int n53, .int n54, .ref z55, .ref z56, .int n57, .int n58, .ref z59, .ref z60, .ref z61, .int n62, .long n63])), (z40, .inl (γ.2.1 0, 5, .inl ((upd gs tt (gs ft))))), (z41, .inl (γ.2.1 0, 40, .inl ((lgP go ft tt 8)))), (z42, .inl (γ.2.1 3, 40, .inl ((lgZ gm ft tt 8))))]) := by
  refine k_ofW (by decide) (Nat.le_of_ble_eq_true rfl) ?_
  intro p9 e s m below meth c A ls hC hr hlocks hname hw hl
  have hx := hC.1
  have hb := hC.2.1
  have hl : lv_has ls 4 [(0, .ref z), (1, .int (nI ft)), (2, .int (nI tt))] := hl
  refine lv_aload_n hx hb dX12_laysGuesses_0 rfl (lv_at hl 0 rfl) ?_
  refine fg_RX12_93 hC hw 0 rfl rfl dX12_laysGuesses_1 ?_
  refine lv_iload_n hx hb dX12_laysGuesses_4 rfl (lv_at hl 2 rfl) ?_
  refine lv_aload_n hx hb dX12_laysGuesses_5 rfl (lv_at hl 0 rfl) ?_
  refine fg_RX12_93 hC hw 0 rfl rfl dX12_laysGuesses_6 ?_
  refine lv_iload_n hx hb dX12_laysGuesses_9 rfl (lv_at hl 1 rfl) ?_
  refine k_iald hC hw 1 rfl (vp_in_nI h1 (by decide)) dX12_laysGuesses_10 ?_
  refine lv_topi (fun x_67 ex_67 => ?_)
  obtain rfl : x_67 = gs ft := (show x_67 = gs (nI ft : Int32).toNatClampNeg from ex_67).trans (by rw [nI_clamp (by omega)])
  refine k_iast hC hw 1 rfl (vp_in_nI h2 (by decide)) dX12_laysGuesses_11 (fun H locs hw => ?_)
  obtain ⟨f_68, ef_68⟩ : ∃ g, g = upd gs ((nI tt) : Int32).toNatClampNeg (gs ft) := ⟨_, rfl⟩
  have hw : kW γ A [(z, .inr (11, [.int n0, .int n1, .ref z2, .int n3, .int n4, .int n5, .int n6, .long n7, .int n8, .int n9, .ref z10, .ref z11, .ref z12, .ref z13, .ref z14, .ref z15, .ref z16, .ref z17, .ref z18, .ref z19, .int n20, .int n21, .ref z22, .ref z23, .ref z24, .ref z25, .ref z26, .ref z27, .ref z28, .ref z29, .ref z30, .ref z31, .ref z32, .ref z33, .int n34, .long n35, .ref z36, .ref z37, .ref z38, .ref z39, .ref z40, .ref z41, .ref z42, .ref z43, .ref z44, .ref z45, .ref z46, .ref z47, .ref z48, .int n49, .int n50, .int n51, .int n52, .int n53, .int n54, .ref z55, .ref z56, .int n57, .int n58, .ref z59, .ref z60, .ref z61, .int n62, .long n63])), (z40, .inl (γ.2.1 0, 5, .inl f_68)), (z41, .inl (γ.2.1 0, 40, .inl go)), (z42, .inl (γ.2.1 3, 40, .inl gm))] s H locs := by rw [ef_68]; exact hw
  have hE : f_68 = upd gs tt (gs ft) := ef_68.trans (by rw [nI_clamp (by omega)])
  rw [hE] at hw
  have hw : kW γ A [(z, .inr (11, [.int n0, .int n1, .ref z2, .int n3, .int n4, .int n5, .int n6, .long n7, .int n8, .int n9, .ref z10, .ref z11, .ref z12, .ref z13, .ref z14, .ref z15, .ref z16, .ref z17, .ref z18, .ref z19, .int n20, .int n21, .ref z22, .ref z23, .ref z24, .ref z25, .ref z26, .ref z27, .ref z28, .ref z29, .ref z30, .ref z31, .ref z32, .ref z33, .int n34, .long n35, .ref z36, .ref z37, .ref z38, .ref z39, .ref z40, .ref z41, .ref z42, .ref z43, .ref z44, .ref z45, .ref z46, .ref z47, .ref z48, .int n49, .int n50, .int n51, .int n52, .int n53, .int n54, .ref z55, .ref z56, .int n57, .int n58, .ref z59, .ref z60, .ref z61, .int n62, .long n63])), (z40, .inl (γ.2.1 0, 5, .inl ((upd gs tt (gs ft))))), (z41, .inl (γ.2.1 0, 40, .inl go)), (z42, .inl (γ.2.1 3, 40, .inl gm))] s H locs := hw
  refine lv_iconst (v := 0) hx hb dX12_laysGuesses_12 (by decide) ?_
  refine lv_istore_n (lv' := [(3, .int 0), (0, .ref z), (1, .int (nI ft)), (2, .int (nI tt))]) hx hb dX12_laysGuesses_13 rfl hl (by decide) rfl (fun ls hl => ?_)
  have hw : kW γ A [(z, .inr (11, [.int n0, .int n1, .ref z2, .int n3, .int n4, .int n5, .int n6, .long n7, .int n8, .int n9, .ref z10, .ref z11, .ref z12, .ref z13, .ref z14, .ref z15, .ref z16, .ref z17, .ref z18, .ref z19, .int n20, .int n21, .ref z22, .ref z23, .ref z24, .ref z25, .ref z26, .ref z27, .ref z28, .ref z29, .ref z30, .ref z31, .ref z32, .ref z33, .int n34, .long n35, .ref z36, .ref z37, .ref z38, .ref z39, .ref z40, .ref z41, .ref z42, .ref z43, .ref z44, .ref z45, .ref z46, .ref z47, .ref z48, .int n49, .int n50, .int n51, .int n52, .int n53, .int n54, .ref z55, .ref z56, .int n57, .int n58, .ref z59, .ref z60, .ref z61, .int n62, .long n63])), (z40, .inl (γ.2.1 0, 5, .inl ((upd gs tt (gs ft))))), (z41, .inl (γ.2.1 0, 40, .inl ((lgP go ft tt 0)))), (z42, .inl (γ.2.1 3, 40, .inl ((lgZ gm ft tt 0))))] s H locs := by rw [← lgP_0 (f := go) (a := ft) (b := tt), ← lgZ_0 (f := gm) (a := ft) (b := tt)]; exact hw
  exact lp_lgx z z2 z10 z11 z12 z13 z14 z15 z16 z17 z18 z19 z22 z23 z24 z25 z26 z27 z28 z29 z30 z31 z32 z33 z36 z37 z38 z39 z40 z41 z42 z43 z44 z45 z46 z47 z48 z55 z56 z59 z60 z61 n0 n1 n3 n4 n5 n6 n7 n8 n9 n20 n21 n34 n35 n49 n50 n51 n52 n53 n54 n57 n58 n62 n63 gs go gm ft tt h1 h2 hab hC hr hlocks 9 0 (by omega) (by omega) _ _ hw _ (lv_sub hl [0, 1, 2, 3] rfl)

set_option maxHeartbeats 4000000 in
set_option maxRecDepth 100000 in
theorem lp_copies {γ : kΓ} {l : Launch} {p9 : Program} {e : Env} {s : State} {m : MethodId} {below : List Frame} {meth : Method} {c : Code} {A : Nat → Prop} (u : Nat) (N1 : Nat) (f1 : Nat → Int32) (a : Nat) (v : Nat) (N2 : Nat) (b : Nat) (h1 : a + 133 ≤ N1) (h2 : b + 133 ≤ N2) (b1 : N1 < 2 ^ 31) (b2 : N2 < 2 ^ 31) (hC : kC γ p9 s m [.ref u, .int (nI a), .ref v, .int (nI b)].toArray c cX12_copies 5 RX12 A) (hr : meth.sig.returnType = none) (hlocks : meth.locks = false) : ∀ (k : Nat) (i : Nat) (f2 : Nat → Int32), 133 - i < k → (i ≤ 133) → ∀ (H : Heap) (locs : List Loc), kW γ A [(u, .inl (γ.2.1 0, N1, .inl f1)), (v, .inl (γ.2.1 0, N2, .inl f2))] s H locs → ∀ ls : Array Slot, lv_has ls 5 [(4, .int (nI i)), (0, .ref u), (1, .int (nI a)), (2, .ref v), (3, .int (nI b))] → W p9 l e ({ frames := 0, cells := 0, slots := 0, locals := 0 } : Room) s m [.ref u, .int (nI a), .ref v, .int (nI b)].toArray below meth c H locs 0 0 (MQ below (kQ γ A (fun r w1 => ∃ (f9 : Nat → Int32), r = none ∧ w1 = [(u, .inl (γ.2.1 0, N1, .inl f1)), (v, .inl (γ.2.1 0, N2, .inl f9))])) [.ref u, .int (nI a), .ref v, .int (nI b)].toArray s 0 0 A) (F0 m 3 ls []) := by
  have hx := hC.1
  have hb := hC.2.1
  intro k
  induction k with
  | zero => intro i f2 hk; exact absurd hk (Nat.not_lt_zero _)
  | succ k ih =>
    intro i f2 hk hi H locs hw ls hl
    refine lv_iload hx hb dX12_copies_3 (lv_at hl 0 rfl) ?_
    refine lv_sipush (v := 133) hx hb dX12_copies_5 (by decide) ?_
    refine lv_icmp_ge (tgt := 29) hx hb dX12_copies_8 (by decide) (fun c1 => ?_) (fun c1 => ?_)
    · have hi9 : i = 133 := by have h9 := (nI_leI (a := 133) (b := i) (by omega) (by omega)).mp c1; omega
      exact k_vret hC hr hlocks hw [0, 1] rfl rfl ⟨f2, rfl, rfl⟩ (by decide) (by decide) dX12_copies_29
    · have hi9 : i < 133 := by rcases Nat.lt_or_ge i 133 with h9 | h9; exact h9; exact absurd (nI_le h9 (by omega)) c1
      refine lv_aload_n hx hb dX12_copies_11 rfl (lv_at hl 3 rfl) ?_
      refine lv_iload_n hx hb dX12_copies_12 rfl (lv_at hl 4 rfl) ?_
      refine lv_iload hx hb dX12_copies_13 (lv_at hl 0 rfl) ?_
      refine lv_iadd hx hb dX12_copies_15 ?_
      refine lv_topi (fun x_69 ex_69 => ?_)
      obtain rfl : x_69 = (nI (b + i)) := ex_69.trans (nI_add b i)
      refine lv_aload_n hx hb dX12_copies_16 rfl (lv_at hl 1 rfl) ?_
      refine lv_iload_n hx hb dX12_copies_17 rfl (lv_at hl 2 rfl) ?_
      refine lv_iload hx hb dX12_copies_18 (lv_at hl 0 rfl) ?_
      refine lv_iadd hx hb dX12_copies_20 ?_
      refine lv_topi (fun x_70 ex_70 => ?_)
      obtain rfl : x_70 = (nI (a + i)) := ex_70.trans (nI_add a i)
      refine k_iald hC hw 0 rfl (vp_in_nI (by omega) b1) dX12_copies_21 ?_
      refine lv_topi (fun x_71 ex_71 => ?_)
      obtain rfl : x_71 = f1 ((a + i)) := (show x_71 = f1 (nI ((a + i)) : Int32).toNatClampNeg from ex_71).trans (by rw [nI_clamp (by omega)])
      refine k_iast hC hw 1 rfl (vp_in_nI (by omega) b2) dX12_copies_22 (fun H locs hw => ?_)
      obtain ⟨f_72, ef_72⟩ : ∃ g, g = upd f2 ((nI (b + i)) : Int32).toNatClampNeg (f1 ((a + i))) := ⟨_, rfl⟩
      have hw : kW γ A [(u, .inl (γ.2.1 0, N1, .inl f1)), (v, .inl (γ.2.1 0, N2, .inl f_72))] s H locs := by rw [ef_72]; exact hw
      refine lv_iinc (v := (nI (i + 1))) (lv' := [(4, .int (nI (i + 1))), (0, .ref u), (1, .int (nI a)), (2, .ref v), (3, .int (nI b))]) hx hb dX12_copies_23 hl (k := 0) rfl (nI_1 i) (by decide) rfl (fun ls hl => ?_)
      refine lv_goto (tgt := 3) hx hb dX12_copies_26 (by decide) ?_
      exact ih (i + 1) f_72 (by omega) (by omega) _ _ (kW.sub hw [0, 1] rfl rfl) _ (lv_sub hl [0, 1, 2, 3, 4] rfl)

set_option maxHeartbeats 4000000 in
set_option maxRecDepth 100000 in
theorem c_X12_copies (γ : kΓ) (l : Launch) (u : Nat) (N1 : Nat) (f1 : Nat → Int32) (a : Nat) (v : Nat) (N2 : Nat) (f2 : Nat → Int32) (b : Nat) (h1 : a + 133 ≤ N1) (h2 : b + 133 ≤ N2) (b1 : N1 < 2 ^ 31) (b2 : N2 < 2 ^ 31) : kM γ l yX12_copies cX12_copies 5 none ({ frames := 0, cells := 0, slots := 0, locals := 0 } : Room) [.ref u, .int (nI a), .ref v, .int (nI b)] [(u, .inl (γ.2.1 0, N1, .inl f1)), (v, .inl (γ.2.1 0, N2, .inl f2))] (fun r w1 => ∃ (f9 : Nat → Int32), r = none ∧ w1 = [(u, .inl (γ.2.1 0, N1, .inl f1)), (v, .inl (γ.2.1 0, N2, .inl f9))]) := by
  refine k_ofW (by decide) (Nat.le_of_ble_eq_true rfl) ?_
  intro p9 e s m below meth c A ls hC hr hlocks hname hw hl
  have hx := hC.1
  have hb := hC.2.1
  have hl : lv_has ls 5 [(0, .ref u), (1, .int (nI a)), (2, .ref v), (3, .int (nI b))] := hl
  refine lv_iconst (v := 0) hx hb dX12_copies_0 (by decide) ?_
  refine lv_istore (lv' := [(4, .int 0), (0, .ref u), (1, .int (nI a)), (2, .ref v), (3, .int (nI b))]) hx hb dX12_copies_1 hl (by decide) rfl (fun ls hl => ?_)
  exact lp_copies u N1 f1 a v N2 b h1 h2 b1 b2 hC hr hlocks 134 0 f2 (by omega) (by omega) _ _ hw _ (lv_sub hl [0, 1, 2, 3, 4] rfl)

set_option maxHeartbeats 4000000 in
set_option maxRecDepth 100000 in
theorem lp_laysLines {γ : kΓ} {l : Launch} {p9 : Program} {e : Env} {s : State} {m : MethodId} {below : List Frame} {meth : Method} {c : Code} {A : Nat → Prop} (z : Nat) (z2 : Nat) (z10 : Nat) (z11 : Nat) (z12 : Nat) (z13 : Nat) (z14 : Nat) (z15 : Nat) (z16 : Nat) (z17 : Nat) (z18 : Nat) (z19 : Nat) (z22 : Nat) (z23 : Nat) (z24 : Nat) (z25 : Nat) (z26 : Nat) (z27 : Nat) (z28 : Nat) (z29 : Nat) (z30 : Nat) (z31 : Nat) (z32 : Nat) (z33 : Nat) (z36 : Nat) (z37 : Nat) (z38 : Nat) (z39 : Nat) (z40 : Nat) (z41 : Nat) (z42 : Nat) (z43 : Nat) (z44 : Nat) (z45 : Nat) (z46 : Nat) (z47 : Nat) (z48 : Nat) (z55 : Nat) (z56 : Nat) (z59 : Nat) (z60 : Nat) (z61 : Nat) (n0 : Int32) (n1 : Int32) (n3 : Int32) (n4 : Int32) (n5 : Int32) (n6 : Int32) (n7 : Int64) (n8 : Int32) (n9 : Int32) (n20 : Int32) (n21 : Int32) (n34 : Int32) (n35 : Int64) (n49 : Int32) (n50 : Int32) (n51 : Int32) (n52 : Int32) (n53 : Int32) (n54 : Int32) (n57 : Int32) (n58 : Int32) (n62 : Int32) (n63 : Int64) (fl : Nat → Int32) (ft : Nat) (tt : Nat) (h1 : ft < 6) (h2 : tt < 6) (hC : kC γ p9 s m [.ref z, .int (nI ft), .int (nI tt)].toArray c cX12_laysLines 4 RX12 A) (hr : meth.sig.returnType = none) (hlocks : meth.locks = false) : ∀ (k : Nat) (i : Nat) (g0 : Nat → Int32) (g1 : Nat → Int32) (g2 : Nat → Int32), 40 - i < k → (i ≤ 40) → ∀ (H : Heap) (locs : List Loc), kW γ A [(z, .inr (11, [.int n0, .int n1, .ref z2, .int n3, .int n4, .int n5, .int n6, .long n7, .int n8, .int n9, .ref z10, .ref z11, .ref z12, .ref z13, .ref z14, .ref z15, .ref z16, .ref z17, .ref z18, .ref z19, .int n20, .int n21, .ref z22, .ref z23, .ref z24, .ref z25, .ref z26, .ref z27, .ref z28, .ref z29, .ref z30, .ref z31, .ref z32, .ref z33, .int n34, .long n35, .ref z36, .ref z37, .ref z38, .ref z39, .ref z40, .ref z41, .ref z42, .ref z43, .ref z44, .ref z45, .ref z46, .ref z47, .ref z48, .int n49, .int n50, .int n51, .int n52, .int n53, .int n54, .ref z55, .ref z56, .int n57, .int n58, .ref z59, .ref z60, .ref z61, .int n62, .long n63])), (z36, .inl (γ.2.1 0, 6, .inl fl)), (z37, .inl (γ.2.1 0, 240, .inl g0)), (z38, .inl (γ.2.1 0, 240, .inl g1)), (z39, .inl (γ.2.1 0, 240, .inl g2))] s H locs → ∀ ls : Array Slot, lv_has ls 4 [(3, .int (nI i)), (0, .ref z), (1, .int (nI ft)), (2, .int (nI tt))] → W p9 l e ({ frames := 0, cells := 0, slots := 0, locals := 0 } : Room) s m [.ref z, .int (nI ft), .int (nI tt)].toArray below meth c H locs 0 0 (MQ below (kQ γ A (fun r w1 => ∃ (k0 : Nat → Int32), ∃ (kg0 : Nat → Int32), ∃ (kg1 : Nat → Int32), ∃ (kg2 : Nat → Int32), r = none ∧ w1 = [(z, .inr (11, [.int n0, .int n1, .ref z2, .int n3, .int n4, .int n5, .int n6, .long n7, .int n8, .int n9, .ref z10, .ref z11, .ref z12, .ref z13, .ref z14, .ref z15, .ref z16, .ref z17, .ref z18, .ref z19, .int n20, .int n21, .ref z22, .ref z23, .ref z24, .ref z25, .ref z26, .ref z27, .ref z28, .ref z29, .ref z30, .ref z31, .ref z32, .ref z33, .int n34, .long n35, .ref z36, .ref z37, .ref z38, .ref z39, .ref z40, .ref z41, .ref z42, .ref z43, .ref z44, .ref z45, .ref z46, .ref z47, .ref z48, .int n49, .int n50, .int n51, .int n52, .int n53, .int n54, .ref z55, .ref z56, .int n57, .int n58, .ref z59, .ref z60, .ref z61, .int n62, .long n63])), (z36, .inl (γ.2.1 0, 6, .inl k0)), (z37, .inl (γ.2.1 0, 240, .inl kg0)), (z38, .inl (γ.2.1 0, 240, .inl kg1)), (z39, .inl (γ.2.1 0, 240, .inl kg2))])) [.ref z, .int (nI ft), .int (nI tt)].toArray s 0 0 A) (F0 m 14 ls []) := by
  have hx := hC.1
  have hb := hC.2.1
  intro k
  induction k with
  | zero => intro i g0 g1 g2 hk; exact absurd hk (Nat.not_lt_zero _)
  | succ k ih =>
    intro i g0 g1 g2 hk hi H locs hw ls hl
    refine lv_iload_n hx hb dX12_laysLines_14 rfl (lv_at hl 0 rfl) ?_
    refine lv_bipush (v := 40) hx hb dX12_laysLines_15 (by decide) ?_
    refine lv_icmp_ge (tgt := 92) hx hb dX12_laysLines_17 (by decide) (fun c1 => ?_) (fun c1 => ?_)
    · have hi9 : i = 40 := by have h9 := (nI_leI (a := 40) (b := i) (by omega) (by omega)).mp c1; omega
      exact k_vret hC hr hlocks hw [0, 1, 2, 3, 4] rfl rfl ⟨fl, g0, g1, g2, rfl, rfl⟩ (by decide) (by decide) dX12_laysLines_92
    · have hi9 : i < 40 := by rcases Nat.lt_or_ge i 40 with h9 | h9; exact h9; exact absurd (nI_le h9 (by omega)) c1
      refine lv_aload_n hx hb dX12_laysLines_20 rfl (lv_at hl 1 rfl) ?_
      refine fg_RX12_84 hC hw 0 rfl rfl dX12_laysLines_21 ?_
      refine lv_bipush (v := 40) hx hb dX12_laysLines_24 (by decide) ?_
      refine lv_iload_n hx hb dX12_laysLines_26 rfl (lv_at hl 3 rfl) ?_
      refine lv_imul hx hb dX12_laysLines_27 ?_
      refine lv_topi (fun x_73 ex_73 => ?_)
      obtain rfl : x_73 = (nI (40 * tt)) := ex_73.trans (pk_mul 40 tt)
      refine lv_iload_n hx hb dX12_laysLines_28 rfl (lv_at hl 0 rfl) ?_
      refine lv_iadd hx hb dX12_laysLines_29 ?_
      refine lv_topi (fun x_74 ex_74 => ?_)
      obtain rfl : x_74 = (nI (40 * tt + i)) := ex_74.trans (nI_add (40 * tt) i)
      refine lv_aload_n hx hb dX12_laysLines_30 rfl (lv_at hl 1 rfl) ?_
      refine fg_RX12_84 hC hw 0 rfl rfl dX12_laysLines_31 ?_
      refine lv_bipush (v := 40) hx hb dX12_laysLines_34 (by decide) ?_
      refine lv_iload_n hx hb dX12_laysLines_36 rfl (lv_at hl 2 rfl) ?_
      refine lv_imul hx hb dX12_laysLines_37 ?_
      refine lv_topi (fun x_75 ex_75 => ?_)
      obtain rfl : x_75 = (nI (40 * ft)) := ex_75.trans (pk_mul 40 ft)
      refine lv_iload_n hx hb dX12_laysLines_38 rfl (lv_at hl 0 rfl) ?_
      refine lv_iadd hx hb dX12_laysLines_39 ?_
      refine lv_topi (fun x_76 ex_76 => ?_)
      obtain rfl : x_76 = (nI (40 * ft + i)) := ex_76.trans (nI_add (40 * ft) i)
      refine k_iald hC hw 2 rfl (vp_in_nI (by omega) (by decide)) dX12_laysLines_40 ?_
      refine lv_topi (fun x_77 ex_77 => ?_)
      obtain rfl : x_77 = g0 ((40 * ft + i)) := (show x_77 = g0 (nI ((40 * ft + i)) : Int32).toNatClampNeg from ex_77).trans (by rw [nI_clamp (by omega)])
      refine k_iast hC hw 2 rfl (vp_in_nI (by omega) (by decide)) dX12_laysLines_41 (fun H locs hw => ?_)
      obtain ⟨f_78, ef_78⟩ : ∃ g, g = upd g0 ((nI (40 * tt + i)) : Int32).toNatClampNeg (g0 ((40 * ft + i))) := ⟨_, rfl⟩
      have hw : kW γ A [(z, .inr (11, [.int n0, .int n1, .ref z2, .int n3, .int n4, .int n5, .int n6, .long n7, .int n8, .int n9, .ref z10, .ref z11, .ref z12, .ref z13, .ref z14, .ref z15, .ref z16, .ref z17, .ref z18, .ref z19, .int n20, .int n21, .ref z22, .ref z23, .ref z24, .ref z25, .ref z26, .ref z27, .ref z28, .ref z29, .ref z30, .ref z31, .ref z32, .ref z33, .int n34, .long n35, .ref z36, .ref z37, .ref z38, .ref z39, .ref z40, .ref z41, .ref z42, .ref z43, .ref z44, .ref z45, .ref z46, .ref z47, .ref z48, .int n49, .int n50, .int n51, .int n52, .int n53, .int n54, .ref z55, .ref z56, .int n57, .int n58, .ref z59, .ref z60, .ref z61, .int n62, .long n63])), (z36, .inl (γ.2.1 0, 6, .inl fl)), (z37, .inl (γ.2.1 0, 240, .inl f_78)), (z38, .inl (γ.2.1 0, 240, .inl g1)), (z39, .inl (γ.2.1 0, 240, .inl g2))] s H locs := by rw [ef_78]; exact hw
      refine lv_aload_n hx hb dX12_laysLines_42 rfl (lv_at hl 1 rfl) ?_
      refine fg_RX12_87 hC hw 0 rfl rfl dX12_laysLines_43 ?_
      refine lv_bipush (v := 40) hx hb dX12_laysLines_46 (by decide) ?_
      refine lv_iload_n hx hb dX12_laysLines_48 rfl (lv_at hl 3 rfl) ?_
      refine lv_imul hx hb dX12_laysLines_49 ?_
      refine lv_topi (fun x_79 ex_79 => ?_)
      obtain rfl : x_79 = (nI (40 * tt)) := ex_79.trans (pk_mul 40 tt)
      refine lv_iload_n hx hb dX12_laysLines_50 rfl (lv_at hl 0 rfl) ?_
      refine lv_iadd hx hb dX12_laysLines_51 ?_
      refine lv_topi (fun x_80 ex_80 => ?_)
      obtain rfl : x_80 = (nI (40 * tt + i)) := ex_80.trans (nI_add (40 * tt) i)
      refine lv_aload_n hx hb dX12_laysLines_52 rfl (lv_at hl 1 rfl) ?_
      refine fg_RX12_87 hC hw 0 rfl rfl dX12_laysLines_53 ?_
      refine lv_bipush (v := 40) hx hb dX12_laysLines_56 (by decide) ?_
      refine lv_iload_n hx hb dX12_laysLines_58 rfl (lv_at hl 2 rfl) ?_
      refine lv_imul hx hb dX12_laysLines_59 ?_
      refine lv_topi (fun x_81 ex_81 => ?_)
      obtain rfl : x_81 = (nI (40 * ft)) := ex_81.trans (pk_mul 40 ft)
      refine lv_iload_n hx hb dX12_laysLines_60 rfl (lv_at hl 0 rfl) ?_
      refine lv_iadd hx hb dX12_laysLines_61 ?_
      refine lv_topi (fun x_82 ex_82 => ?_)
      obtain rfl : x_82 = (nI (40 * ft + i)) := ex_82.trans (nI_add (40 * ft) i)
      refine k_iald hC hw 3 rfl (vp_in_nI (by omega) (by decide)) dX12_laysLines_62 ?_
      refine lv_topi (fun x_83 ex_83 => ?_)
      obtain rfl : x_83 = g1 ((40 * ft + i)) := (show x_83 = g1 (nI ((40 * ft + i)) : Int32).toNatClampNeg from ex_83).trans (by rw [nI_clamp (by omega)])
      refine k_iast hC hw 3 rfl (vp_in_nI (by omega) (by decide)) dX12_laysLines_63 (fun H locs hw => ?_)
      obtain ⟨f_84, ef_84⟩ : ∃ g, g = upd g1 ((nI (40 * tt + i)) : Int32).toNatClampNeg (g1 ((40 * ft + i))) := ⟨_, rfl⟩
      have hw : kW γ A [(z, .inr (11, [.int n0, .int n1, .ref z2, .int n3, .int n4, .int n5, .int n6, .long n7, .int n8, .int n9, .ref z10, .ref z11, .ref z12, .ref z13, .ref z14, .ref z15, .ref z16, .ref z17, .ref z18, .ref z19, .int n20, .int n21, .ref z22, .ref z23, .ref z24, .ref z25, .ref z26, .ref z27, .ref z28, .ref z29, .ref z30, .ref z31, .ref z32, .ref z33, .int n34, .long n35, .ref z36, .ref z37, .ref z38, .ref z39, .ref z40, .ref z41, .ref z42, .ref z43, .ref z44, .ref z45, .ref z46, .ref z47, .ref z48, .int n49, .int n50, .int n51, .int n52, .int n53, .int n54, .ref z55, .ref z56, .int n57, .int n58, .ref z59, .ref z60, .ref z61, .int n62, .long n63])), (z36, .inl (γ.2.1 0, 6, .inl fl)), (z37, .inl (γ.2.1 0, 240, .inl f_78)), (z38, .inl (γ.2.1 0, 240, .inl f_84)), (z39, .inl (γ.2.1 0, 240, .inl g2))] s H locs := by rw [ef_84]; exact hw
      refine lv_aload_n hx hb dX12_laysLines_64 rfl (lv_at hl 1 rfl) ?_
      refine fg_RX12_90 hC hw 0 rfl rfl dX12_laysLines_65 ?_
      refine lv_bipush (v := 40) hx hb dX12_laysLines_68 (by decide) ?_
      refine lv_iload_n hx hb dX12_laysLines_70 rfl (lv_at hl 3 rfl) ?_
      refine lv_imul hx hb dX12_laysLines_71 ?_
      refine lv_topi (fun x_85 ex_85 => ?_)
      obtain rfl : x_85 = (nI (40 * tt)) := ex_85.trans (pk_mul 40 tt)
      refine lv_iload_n hx hb dX12_laysLines_72 rfl (lv_at hl 0 rfl) ?_
      refine lv_iadd hx hb dX12_laysLines_73 ?_
      refine lv_topi (fun x_86 ex_86 => ?_)
      obtain rfl : x_86 = (nI (40 * tt + i)) := ex_86.trans (nI_add (40 * tt) i)
      refine lv_aload_n hx hb dX12_laysLines_74 rfl (lv_at hl 1 rfl) ?_
      refine fg_RX12_90 hC hw 0 rfl rfl dX12_laysLines_75 ?_
      refine lv_bipush (v := 40) hx hb dX12_laysLines_78 (by decide) ?_
      refine lv_iload_n hx hb dX12_laysLines_80 rfl (lv_at hl 2 rfl) ?_
      refine lv_imul hx hb dX12_laysLines_81 ?_
      refine lv_topi (fun x_87 ex_87 => ?_)
      obtain rfl : x_87 = (nI (40 * ft)) := ex_87.trans (pk_mul 40 ft)
      refine lv_iload_n hx hb dX12_laysLines_82 rfl (lv_at hl 0 rfl) ?_
      refine lv_iadd hx hb dX12_laysLines_83 ?_
      refine lv_topi (fun x_88 ex_88 => ?_)
      obtain rfl : x_88 = (nI (40 * ft + i)) := ex_88.trans (nI_add (40 * ft) i)
      refine k_iald hC hw 4 rfl (vp_in_nI (by omega) (by decide)) dX12_laysLines_84 ?_
      refine lv_topi (fun x_89 ex_89 => ?_)
      obtain rfl : x_89 = g2 ((40 * ft + i)) := (show x_89 = g2 (nI ((40 * ft + i)) : Int32).toNatClampNeg from ex_89).trans (by rw [nI_clamp (by omega)])
      refine k_iast hC hw 4 rfl (vp_in_nI (by omega) (by decide)) dX12_laysLines_85 (fun H locs hw => ?_)
      obtain ⟨f_90, ef_90⟩ : ∃ g, g = upd g2 ((nI (40 * tt + i)) : Int32).toNatClampNeg (g2 ((40 * ft + i))) := ⟨_, rfl⟩
      have hw : kW γ A [(z, .inr (11, [.int n0, .int n1, .ref z2, .int n3, .int n4, .int n5, .int n6, .long n7, .int n8, .int n9, .ref z10, .ref z11, .ref z12, .ref z13, .ref z14, .ref z15, .ref z16, .ref z17, .ref z18, .ref z19, .int n20, .int n21, .ref z22, .ref z23, .ref z24, .ref z25, .ref z26, .ref z27, .ref z28, .ref z29, .ref z30, .ref z31, .ref z32, .ref z33, .int n34, .long n35, .ref z36, .ref z37, .ref z38, .ref z39, .ref z40, .ref z41, .ref z42, .ref z43, .ref z44, .ref z45, .ref z46, .ref z47, .ref z48, .int n49, .int n50, .int n51, .int n52, .int n53, .int n54, .ref z55, .ref z56, .int n57, .int n58, .ref z59, .ref z60, .ref z61, .int n62, .long n63])), (z36, .inl (γ.2.1 0, 6, .inl fl)), (z37, .inl (γ.2.1 0, 240, .inl f_78)), (z38, .inl (γ.2.1 0, 240, .inl f_84)), (z39, .inl (γ.2.1 0, 240, .inl f_90))] s H locs := by rw [ef_90]; exact hw
      refine lv_iinc (v := (nI (i + 1))) (lv' := [(3, .int (nI (i + 1))), (0, .ref z), (1, .int (nI ft)), (2, .int (nI tt))]) hx hb dX12_laysLines_86 hl (k := 0) rfl (nI_1 i) (by decide) rfl (fun ls hl => ?_)
      refine lv_goto (tgt := 14) hx hb dX12_laysLines_89 (by decide) ?_
      exact ih (i + 1) f_78 f_84 f_90 (by omega) (by omega) _ _ (kW.sub hw [0, 1, 2, 3, 4] rfl rfl) _ (lv_sub hl [0, 1, 2, 3] rfl)

set_option maxHeartbeats 4000000 in
set_option maxRecDepth 100000 in
theorem c_X12_laysLines (γ : kΓ) (l : Launch) (z : Nat) (z2 : Nat) (z10 : Nat) (z11 : Nat) (z12 : Nat) (z13 : Nat) (z14 : Nat) (z15 : Nat) (z16 : Nat) (z17 : Nat) (z18 : Nat) (z19 : Nat) (z22 : Nat) (z23 : Nat) (z24 : Nat) (z25 : Nat) (z26 : Nat) (z27 : Nat) (z28 : Nat) (z29 : Nat) (z30 : Nat) (z31 : Nat) (z32 : Nat) (z33 : Nat) (z36 : Nat) (z37 : Nat) (z38 : Nat) (z39 : Nat) (z40 : Nat) (z41 : Nat) (z42 : Nat) (z43 : Nat) (z44 : Nat) (z45 : Nat) (z46 : Nat) (z47 : Nat) (z48 : Nat) (z55 : Nat) (z56 : Nat) (z59 : Nat) (z60 : Nat) (z61 : Nat) (n0 : Int32) (n1 : Int32) (n3 : Int32) (n4 : Int32) (n5 : Int32) (n6 : Int32) (n7 : Int64) (n8 : Int32) (n9 : Int32) (n20 : Int32) (n21 : Int32) (n34 : Int32) (n35 : Int64) (n49 : Int32) (n50 : Int32) (n51 : Int32) (n52 : Int32) (n53 : Int32) (n54 : Int32) (n57 : Int32) (n58 : Int32) (n62 : Int32) (n63 : Int64) (fl : Nat → Int32) (g0 : Nat → Int32) (g1 : Nat → Int32) (g2 : Nat → Int32) (ft : Nat) (tt : Nat) (h1 : ft < 6) (h2 : tt < 6) : kM γ l yX12_laysLines cX12_laysLines 4 none ({ frames := 0, cells := 0, slots := 0, locals := 0 } : Room) [.ref z, .int (nI ft), .int (nI tt)] [(z, .inr (11, [.int n0, .int n1, .ref z2, .int n3, .int n4, .int n5, .int n6, .long n7, .int n8, .int n9, .ref z10, .ref z11, .ref z12, .ref z13, .ref z14, .ref z15, .ref z16, .ref z17, .ref z18, .ref z19, .int n20, .int n21, .ref z22, .ref z23, .ref z24, .ref z25, .ref z26, .ref z27, .ref z28, .ref z29, .ref z30, .ref z31, .ref z32, .ref z33, .int n34, .long n35, .ref z36, .ref z37, .ref z38, .ref z39, .ref z40, .ref z41, .ref z42, .ref z43, .ref z44, .ref z45, .ref z46, .ref z47, .ref z48, .int n49, .int n50, .int n51, .int n52, .int n53, .int n54, .ref z55, .ref z56, .int n57, .int n58, .ref z59, .ref z60, .ref z61, .int n62, .long n63])), (z36, .inl (γ.2.1 0, 6, .inl fl)), (z37, .inl (γ.2.1 0, 240, .inl g0)), (z38, .inl (γ.2.1 0, 240, .inl g1)), (z39, .inl (γ.2.1 0, 240, .inl g2))] (fun r w1 => ∃ (k0 : Nat → Int32), ∃ (kg0 : Nat → Int32), ∃ (kg1 : Nat → Int32), ∃ (kg2 : Nat → Int32), r = none ∧ w1 = [(z, .inr (11, [.int n0, .int n1, .ref z2, .int n3, .int n4, .int n5, .int n6, .long n7, .int n8, .int n9, .ref z10, .ref z11, .ref z12, .ref z13, .ref z14, .ref z15, .ref z16, .ref z17, .ref z18, .ref z19, .int n20, .int n21, .ref z22, .ref z23, .ref z24, .ref z25, .ref z26, .ref z27, .ref z28, .ref z29, .ref z30, .ref z31, .ref z32, .ref z33, .int n34, .long n35, .ref z36, .ref z37, .ref z38, .ref z39, .ref z40, .ref z41, .ref z42, .ref z43, .ref z44, .ref z45, .ref z46, .ref z47, .ref z48, .int n49, .int n50, .int n51, .int n52, .int n53, .int n54, .ref z55, .ref z56, .int n57, .int n58, .ref z59, .ref z60, .ref z61, .int n62, .long n63])), (z36, .inl (γ.2.1 0, 6, .inl k0)), (z37, .inl (γ.2.1 0, 240, .inl kg0)), (z38, .inl (γ.2.1 0, 240, .inl kg1)), (z39, .inl (γ.2.1 0, 240, .inl kg2))]) := by
  refine k_ofW (by decide) (Nat.le_of_ble_eq_true rfl) ?_
  intro p9 e s m below meth c A ls hC hr hlocks hname hw hl
  have hx := hC.1
  have hb := hC.2.1
  have hl : lv_has ls 4 [(0, .ref z), (1, .int (nI ft)), (2, .int (nI tt))] := hl
  refine lv_aload_n hx hb dX12_laysLines_0 rfl (lv_at hl 0 rfl) ?_
  refine fg_RX12_81 hC hw 0 rfl rfl dX12_laysLines_1 ?_
  refine lv_iload_n hx hb dX12_laysLines_4 rfl (lv_at hl 2 rfl) ?_
  refine lv_aload_n hx hb dX12_laysLines_5 rfl (lv_at hl 0 rfl) ?_
  refine fg_RX12_81 hC hw 0 rfl rfl dX12_laysLines_6 ?_
  refine lv_iload_n hx hb dX12_laysLines_9 rfl (lv_at hl 1 rfl) ?_
  refine k_iald hC hw 1 rfl (vp_in_nI h1 (by decide)) dX12_laysLines_10 ?_
  refine lv_topi (fun x_91 ex_91 => ?_)
  obtain rfl : x_91 = fl ft := (show x_91 = fl (nI ft : Int32).toNatClampNeg from ex_91).trans (by rw [nI_clamp (by omega)])
  refine k_iast hC hw 1 rfl (vp_in_nI h2 (by decide)) dX12_laysLines_11 (fun H locs hw => ?_)
  obtain ⟨f_92, ef_92⟩ : ∃ g, g = upd fl ((nI tt) : Int32).toNatClampNeg (fl ft) := ⟨_, rfl⟩
  have hw : kW γ A [(z, .inr (11, [.int n0, .int n1, .ref z2, .int n3, .int n4, .int n5, .int n6, .long n7, .int n8, .int n9, .ref z10, .ref z11, .ref z12, .ref z13, .ref z14, .ref z15, .ref z16, .ref z17, .ref z18, .ref z19, .int n20, .int n21, .ref z22, .ref z23, .ref z24, .ref z25, .ref z26, .ref z27, .ref z28, .ref z29, .ref z30, .ref z31, .ref z32, .ref z33, .int n34, .long n35, .ref z36, .ref z37, .ref z38, .ref z39, .ref z40, .ref z41, .ref z42, .ref z43, .ref z44, .ref z45, .ref z46, .ref z47, .ref z48, .int n49, .int n50, .int n51, .int n52, .int n53, .int n54, .ref z55, .ref z56, .int n57, .int n58, .ref z59, .ref z60, .ref z61, .int n62, .long n63])), (z36, .inl (γ.2.1 0, 6, .inl f_92)), (z37, .inl (γ.2.1 0, 240, .inl g0)), (z38, .inl (γ.2.1 0, 240, .inl g1)), (z39, .inl (γ.2.1 0, 240, .inl g2))] s H locs := by rw [ef_92]; exact hw
  refine lv_iconst (v := 0) hx hb dX12_laysLines_12 (by decide) ?_
  refine lv_istore_n (lv' := [(3, .int 0), (0, .ref z), (1, .int (nI ft)), (2, .int (nI tt))]) hx hb dX12_laysLines_13 rfl hl (by decide) rfl (fun ls hl => ?_)
  exact lp_laysLines z z2 z10 z11 z12 z13 z14 z15 z16 z17 z18 z19 z22 z23 z24 z25 z26 z27 z28 z29 z30 z31 z32 z33 z36 z37 z38 z39 z40 z41 z42 z43 z44 z45 z46 z47 z48 z55 z56 z59 z60 z61 n0 n1 n3 n4 n5 n6 n7 n8 n9 n20 n21 n34 n35 n49 n50 n51 n52 n53 n54 n57 n58 n62 n63 f_92 ft tt h1 h2 hC hr hlocks 41 0 g0 g1 g2 (by omega) (by omega) _ _ hw _ (lv_sub hl [0, 1, 2, 3] rfl)

set_option maxHeartbeats 4000000 in
set_option maxRecDepth 100000 in
theorem c_mk_b0 (γ : kΓ) (l : Launch) (z : Nat) (z2 : Nat) (z10 : Nat) (z11 : Nat) (z12 : Nat) (z13 : Nat) (z14 : Nat) (z15 : Nat) (z16 : Nat) (z17 : Nat) (z18 : Nat) (z19 : Nat) (z22 : Nat) (z23 : Nat) (z24 : Nat) (z25 : Nat) (z26 : Nat) (z27 : Nat) (z28 : Nat) (z29 : Nat) (z30 : Nat) (z31 : Nat) (z32 : Nat) (z33 : Nat) (z36 : Nat) (z37 : Nat) (z38 : Nat) (z39 : Nat) (z40 : Nat) (z41 : Nat) (z42 : Nat) (z43 : Nat) (z44 : Nat) (z45 : Nat) (z46 : Nat) (z47 : Nat) (z48 : Nat) (z55 : Nat) (z56 : Nat) (z59 : Nat) (z60 : Nat) (z61 : Nat) (n0 : Int32) (n1 : Int32) (n3 : Int32) (n4 : Int32) (n5 : Int32) (n6 : Int32) (n7 : Int64) (n8 : Int32) (n9 : Int32) (n20 : Int32) (n21 : Int32) (n34 : Int32) (n35 : Int64) (n49 : Int32) (n50 : Int32) (n51 : Int32) (n52 : Int32) (n53 : Int32) (n54 : Int32) (n57 : Int32) (n58 : Int32) (n62 : Int32) (n63 : Int64) (il : Nat → Int32) (ln : Nat → Int32) (wa : Nat → Int32) (wb : Nat → Int32) (wc9 : Nat → Int32) (gs : Nat → Int32) (go : Nat → Int32) (gm : Nat → Int32) (fs : Nat → Int32) (fm9 : Nat → Int32) (m9 : Nat) (hm : m9 < 4) : kM γ l yX12_mark cX12_mark 5 ((some .boolean)) ({ frames := 1, cells := 0, slots := 0, locals := 24 } : Room) [.ref z, .int (nI m9), .int 0] [(z, .inr (11, [.int n0, .int n1, .ref z2, .int n3, .int n4, .int n5, .int n6, .long n7, .int n8, .int n9, .ref z10, .ref z11, .ref z12, .ref z13, .ref z14, .ref z15, .ref z16, .ref z17, .ref z18, .ref z19, .int n20, .int n21, .ref z22, .ref z23, .ref z24, .ref z25, .ref z26, .ref z27, .ref z28, .ref z29, .ref z30, .ref z31, .ref z32, .ref z33, .int n34, .long n35, .ref z36, .ref z37, .ref z38, .ref z39, .ref z40, .ref z41, .ref z42, .ref z43, .ref z44, .ref z45, .ref z46, .ref z47, .ref z48, .int n49, .int n50, .int n51, .int n52, .int n53, .int n54, .ref z55, .ref z56, .int n57, .int n58, .ref z59, .ref z60, .ref z61, .int n62, .long n63])), (z48, .inl (γ.2.1 3, 4, .inl il)), (z36, .inl (γ.2.1 0, 6, .inl ln)), (z37, .inl (γ.2.1 0, 240, .inl wa)), (z38, .inl (γ.2.1 0, 240, .inl wb)), (z39, .inl (γ.2.1 0, 240, .inl wc9)), (z40, .inl (γ.2.1 0, 5, .inl gs)), (z41, .inl (γ.2.1 0, 40, .inl go)), (z42, .inl (γ.2.1 3, 40, .inl gm)), (z43, .inl (γ.2.1 0, 133, .inl fs)), (z46, .inl (γ.2.1 0, 532, .inl fm9))] (fun r w1 => ∃ (k_ln : Nat → Int32), ∃ (k_wa : Nat → Int32), ∃ (k_wb : Nat → Int32), ∃ (k_wc : Nat → Int32), ∃ (k_mk : Nat → Int32), r = some (.int 1) ∧ w1 = [(z, .inr (11, [.int 0, .int n1, .ref z2, .int n3, .int n4, .int n5, .int n6, .long n7, .int n8, .int n9, .ref z10, .ref z11, .ref z12, .ref z13, .ref z14, .ref z15, .ref z16, .ref z17, .ref z18, .ref z19, .int n20, .int n21, .ref z22, .ref z23, .ref z24, .ref z25, .ref z26, .ref z27, .ref z28, .ref z29, .ref z30, .ref z31, .ref z32, .ref z33, .int n34, .long n35, .ref z36, .ref z37, .ref z38, .ref z39, .ref z40, .ref z41, .ref z42, .ref z43, .ref z44, .ref z45, .ref z46, .ref z47, .ref z48, .int n49, .int n50, .int n51, .int n52, .int n53, .int n54, .ref z55, .ref z56, .int n57, .int n58, .ref z59, .ref z60, .ref z61, .int n62, .long n63])), (z48, .inl (γ.2.1 3, 4, .inl ((upd il m9 1)))), (z36, .inl (γ.2.1 0, 6, .inl k_ln)), (z37, .inl (γ.2.1 0, 240, .inl k_wa)), (z38, .inl (γ.2.1 0, 240, .inl k_wb)), (z39, .inl (γ.2.1 0, 240, .inl k_wc)), (z40, .inl (γ.2.1 0, 5, .inl ((upd gs (1 + m9) (gs 0))))), (z41, .inl (γ.2.1 0, 40, .inl ((lgP go 0 (1 + m9) 8)))), (z42, .inl (γ.2.1 3, 40, .inl ((lgZ gm 0 (1 + m9) 8)))), (z43, .inl (γ.2.1 0, 133, .inl fs)), (z46, .inl (γ.2.1 0, 532, .inl k_mk))]) := by
  refine k_ofW (by decide) (Nat.le_of_ble_eq_true rfl) ?_
  intro p9 e s m below meth c A ls hC hr hlocks hname hw hl
  have hx := hC.1
  have hb := hC.2.1
  have hl : lv_has ls 5 [(0, .ref z), (1, .int (nI m9)), (2, .int 0)] := hl
  refine lv_aload_n hx hb dX12_mark_0 rfl (lv_at hl 0 rfl) ?_
  refine lv_iconst (v := 0) hx hb dX12_mark_1 (by decide) ?_
  refine fs_RX12_143 hC hw 0 rfl rfl rfl (Nat.le_of_ble_eq_true rfl) dX12_mark_2 (fun H locs hw => ?_)
  have hw : kW γ A [(z, .inr (11, [.int 0, .int n1, .ref z2, .int n3, .int n4, .int n5, .int n6, .long n7, .int n8, .int n9, .ref z10, .ref z11, .ref z12, .ref z13, .ref z14, .ref z15, .ref z16, .ref z17, .ref z18, .ref z19, .int n20, .int n21, .ref z22, .ref z23, .ref z24, .ref z25, .ref z26, .ref z27, .ref z28, .ref z29, .ref z30, .ref z31, .ref z32, .ref z33, .int n34, .long n35, .ref z36, .ref z37, .ref z38, .ref z39, .ref z40, .ref z41, .ref z42, .ref z43, .ref z44, .ref z45, .ref z46, .ref z47, .ref z48, .int n49, .int n50, .int n51, .int n52, .int n53, .int n54, .ref z55, .ref z56, .int n57, .int n58, .ref z59, .ref z60, .ref z61, .int n62, .long n63])), (z48, .inl (γ.2.1 3, 4, .inl il)), (z36, .inl (γ.2.1 0, 6, .inl ln)), (z37, .inl (γ.2.1 0, 240, .inl wa)), (z38, .inl (γ.2.1 0, 240, .inl wb)), (z39, .inl (γ.2.1 0, 240, .inl wc9)), (z40, .inl (γ.2.1 0, 5, .inl gs)), (z41, .inl (γ.2.1 0, 40, .inl go)), (z42, .inl (γ.2.1 3, 40, .inl gm)), (z43, .inl (γ.2.1 0, 133, .inl fs)), (z46, .inl (γ.2.1 0, 532, .inl fm9))] s H locs := hw
  refine lv_iload_n hx hb dX12_mark_5 rfl (lv_at hl 1 rfl) ?_
  refine lv_iconst (v := 0) hx hb dX12_mark_6 (by decide) ?_
  refine lv_iconst (v := 3) hx hb dX12_mark_7 (by decide) ?_
  refine k_S (wr := [(z, .inr (11, [.int 0, .int n1, .ref z2, .int n3, .int n4, .int n5, .int n6, .long n7, .int n8, .int n9, .ref z10, .ref z11, .ref z12, .ref z13, .ref z14, .ref z15, .ref z16, .ref z17, .ref z18, .ref z19, .int n20, .int n21, .ref z22, .ref z23, .ref z24, .ref z25, .ref z26, .ref z27, .ref z28, .ref z29, .ref z30, .ref z31, .ref z32, .ref z33, .int n34, .long n35, .ref z36, .ref z37, .ref z38, .ref z39, .ref z40, .ref z41, .ref z42, .ref z43, .ref z44, .ref z45, .ref z46, .ref z47, .ref z48, .int n49, .int n50, .int n51, .int n52, .int n53, .int n54, .ref z55, .ref z56, .int n57, .int n58, .ref z59, .ref z60, .ref z61, .int n62, .long n63])), (z48, .inl (γ.2.1 3, 4, .inl il)), (z36, .inl (γ.2.1 0, 6, .inl ln)), (z37, .inl (γ.2.1 0, 240, .inl wa)), (z38, .inl (γ.2.1 0, 240, .inl wb)), (z39, .inl (γ.2.1 0, 240, .inl wc9)), (z40, .inl (γ.2.1 0, 5, .inl gs)), (z41, .inl (γ.2.1 0, 40, .inl go)), (z42, .inl (γ.2.1 3, 40, .inl gm)), (z43, .inl (γ.2.1 0, 133, .inl fs)), (z46, .inl (γ.2.1 0, 532, .inl fm9))]) 3 gw_1468 gw_1469 gw_15 gw_1470 hd_X12_within hC hw (c_wi_t γ l (nI m9) 0 3 (nI_n0 (by omega)) (nI_3 hm)) ⟨by decide, by decide⟩ ⟨by decide, by decide⟩ hl.1 rfl rfl (Nat.le_of_ble_eq_true rfl) [] [0, 1, 2, 3, 4, 5, 6, 7, 8, 9, 10] rfl rfl rfl rfl (by decide) dX12_mark_8 (fun r w1 H locs hq hw => ?_)
  obtain ⟨rfl, rfl⟩ := hq
  have hw : kW γ A [(z, .inr (11, [.int 0, .int n1, .ref z2, .int n3, .int n4, .int n5, .int n6, .long n7, .int n8, .int n9, .ref z10, .ref z11, .ref z12, .ref z13, .ref z14, .ref z15, .ref z16, .ref z17, .ref z18, .ref z19, .int n20, .int n21, .ref z22, .ref z23, .ref z24, .ref z25, .ref z26, .ref z27, .ref z28, .ref z29, .ref z30, .ref z31, .ref z32, .ref z33, .int n34, .long n35, .ref z36, .ref z37, .ref z38, .ref z39, .ref z40, .ref z41, .ref z42, .ref z43, .ref z44, .ref z45, .ref z46, .ref z47, .ref z48, .int n49, .int n50, .int n51, .int n52, .int n53, .int n54, .ref z55, .ref z56, .int n57, .int n58, .ref z59, .ref z60, .ref z61, .int n62, .long n63])), (z48, .inl (γ.2.1 3, 4, .inl il)), (z36, .inl (γ.2.1 0, 6, .inl ln)), (z37, .inl (γ.2.1 0, 240, .inl wa)), (z38, .inl (γ.2.1 0, 240, .inl wb)), (z39, .inl (γ.2.1 0, 240, .inl wc9)), (z40, .inl (γ.2.1 0, 5, .inl gs)), (z41, .inl (γ.2.1 0, 40, .inl go)), (z42, .inl (γ.2.1 3, 40, .inl gm)), (z43, .inl (γ.2.1 0, 133, .inl fs)), (z46, .inl (γ.2.1 0, 532, .inl fm9))] s H locs := hw
  refine W.eq (g2 := F0 m 11 ls [.int 1]) rfl ?_
  refine lv_if_eq (tgt := 27) hx hb dX12_mark_11 (by decide) (fun h => absurd h (by decide)) (fun _ => ?_)
  refine lv_iload_n hx hb dX12_mark_14 rfl (lv_at hl 2 rfl) ?_
  refine lv_if_eq (tgt := 29) hx hb dX12_mark_15 (by decide) (fun _ => ?_) (fun h => absurd (by decide) h)
  refine lv_aload_n hx hb dX12_mark_29 rfl (lv_at hl 0 rfl) ?_
  refine fg_RX12_117 hC hw 0 rfl rfl dX12_mark_30 ?_
  refine lv_iload_n hx hb dX12_mark_33 rfl (lv_at hl 1 rfl) ?_
  refine lv_iconst (v := 1) hx hb dX12_mark_34 (by decide) ?_
  refine k_zast hC hw 1 rfl (vp_in_nI hm (by decide)) dX12_mark_35 (fun H locs hw => ?_)
  obtain ⟨f_93, ef_93⟩ : ∃ g, g = upd il ((nI m9) : Int32).toNatClampNeg (vp_nar .boolean 1) := ⟨_, rfl⟩
  have hw : kW γ A [(z, .inr (11, [.int 0, .int n1, .ref z2, .int n3, .int n4, .int n5, .int n6, .long n7, .int n8, .int n9, .ref z10, .ref z11, .ref z12, .ref z13, .ref z14, .ref z15, .ref z16, .ref z17, .ref z18, .ref z19, .int n20, .int n21, .ref z22, .ref z23, .ref z24, .ref z25, .ref z26, .ref z27, .ref z28, .ref z29, .ref z30, .ref z31, .ref z32, .ref z33, .int n34, .long n35, .ref z36, .ref z37, .ref z38, .ref z39, .ref z40, .ref z41, .ref z42, .ref z43, .ref z44, .ref z45, .ref z46, .ref z47, .ref z48, .int n49, .int n50, .int n51, .int n52, .int n53, .int n54, .ref z55, .ref z56, .int n57, .int n58, .ref z59, .ref z60, .ref z61, .int n62, .long n63])), (z48, .inl (γ.2.1 3, 4, .inl f_93)), (z36, .inl (γ.2.1 0, 6, .inl ln)), (z37, .inl (γ.2.1 0, 240, .inl wa)), (z38, .inl (γ.2.1 0, 240, .inl wb)), (z39, .inl (γ.2.1 0, 240, .inl wc9)), (z40, .inl (γ.2.1 0, 5, .inl gs)), (z41, .inl (γ.2.1 0, 40, .inl go)), (z42, .inl (γ.2.1 3, 40, .inl gm)), (z43, .inl (γ.2.1 0, 133, .inl fs)), (z46, .inl (γ.2.1 0, 532, .inl fm9))] s H locs := by rw [ef_93]; exact hw
  have hE : f_93 = upd il m9 1 := ef_93.trans (by rw [nI_clamp (by omega)]; rfl)
  rw [hE] at hw
  have hw : kW γ A [(z, .inr (11, [.int 0, .int n1, .ref z2, .int n3, .int n4, .int n5, .int n6, .long n7, .int n8, .int n9, .ref z10, .ref z11, .ref z12, .ref z13, .ref z14, .ref z15, .ref z16, .ref z17, .ref z18, .ref z19, .int n20, .int n21, .ref z22, .ref z23, .ref z24, .ref z25, .ref z26, .ref z27, .ref z28, .ref z29, .ref z30, .ref z31, .ref z32, .ref z33, .int n34, .long n35, .ref z36, .ref z37, .ref z38, .ref z39, .ref z40, .ref z41, .ref z42, .ref z43, .ref z44, .ref z45, .ref z46, .ref z47, .ref z48, .int n49, .int n50, .int n51, .int n52, .int n53, .int n54, .ref z55, .ref z56, .int n57, .int n58, .ref z59, .ref z60, .ref z61, .int n62, .long n63])), (z48, .inl (γ.2.1 3, 4, .inl ((upd il m9 1)))), (z36, .inl (γ.2.1 0, 6, .inl ln)), (z37, .inl (γ.2.1 0, 240, .inl wa)), (z38, .inl (γ.2.1 0, 240, .inl wb)), (z39, .inl (γ.2.1 0, 240, .inl wc9)), (z40, .inl (γ.2.1 0, 5, .inl gs)), (z41, .inl (γ.2.1 0, 40, .inl go)), (z42, .inl (γ.2.1 3, 40, .inl gm)), (z43, .inl (γ.2.1 0, 133, .inl fs)), (z46, .inl (γ.2.1 0, 532, .inl fm9))] s H locs := hw
  refine lv_iload_n hx hb dX12_mark_36 rfl (lv_at hl 2 rfl) ?_
  refine lv_if_eq (tgt := 46) hx hb dX12_mark_37 (by decide) (fun _ => ?_) (fun h => absurd (by decide) h)
  refine lv_iconst (v := 0) hx hb dX12_mark_46 (by decide) ?_
  refine lv_istore_n (lv' := [(3, .int 0), (0, .ref z), (1, .int (nI m9)), (2, .int 0)]) hx hb dX12_mark_47 rfl hl (by decide) rfl (fun ls hl => ?_)
  refine lv_iload_n hx hb dX12_mark_48 rfl (lv_at hl 3 rfl) ?_
  refine lv_if_eq (tgt := 56) hx hb dX12_mark_49 (by decide) (fun _ => ?_) (fun h => absurd (by decide) h)
  refine lv_iconst (v := 1) hx hb dX12_mark_56 (by decide) ?_
  refine lv_iload_n hx hb dX12_mark_57 rfl (lv_at hl 2 rfl) ?_
  refine lv_iadd hx hb dX12_mark_58 ?_
  refine lv_topi (fun x_94 ex_94 => ?_)
  obtain rfl : x_94 = (nI (1 + m9)) := ex_94.trans (nI_add 1 m9)
  refine lv_istore (lv' := [(4, .int (nI (1 + m9))), (3, .int 0), (0, .ref z), (1, .int (nI m9)), (2, .int 0)]) hx hb dX12_mark_59 hl (by decide) rfl (fun ls hl => ?_)
  refine lv_aload_n hx hb dX12_mark_61 rfl (lv_at hl 2 rfl) ?_
  refine lv_iload_n hx hb dX12_mark_62 rfl (lv_at hl 1 rfl) ?_
  refine lv_iload hx hb dX12_mark_63 (lv_at hl 0 rfl) ?_
  refine k_V (wr := [(z48, .inl (γ.2.1 3, 4, .inl ((upd il m9 1)))), (z40, .inl (γ.2.1 0, 5, .inl gs)), (z41, .inl (γ.2.1 0, 40, .inl go)), (z42, .inl (γ.2.1 3, 40, .inl gm)), (z43, .inl (γ.2.1 0, 133, .inl fs)), (z46, .inl (γ.2.1 0, 532, .inl fm9))]) 2 gw_1537 gw_1539 gp_78 gw_15 gw_1540 hd_X12_laysLines hC hw (c_X12_laysLines γ l z z2 z10 z11 z12 z13 z14 z15 z16 z17 z18 z19 z22 z23 z24 z25 z26 z27 z28 z29 z30 z31 z32 z33 z36 z37 z38 z39 z40 z41 z42 z43 z44 z45 z46 z47 z48 z55 z56 z59 z60 z61 0 n1 n3 n4 n5 n6 n7 n8 n9 n20 n21 n34 n35 n49 n50 n51 n52 n53 n54 n57 n58 n62 n63 ln wa wb wc9 0 (1 + m9) (by omega) (by omega)) ⟨by decide, by decide⟩ ⟨by decide, by decide⟩ hl.1 rfl 0 rfl rfl rfl (Nat.le_of_ble_eq_true rfl) [0, 2, 3, 4, 5] [1, 6, 7, 8, 9, 10] rfl rfl rfl rfl (by decide) dX12_mark_65 (fun r w1 H locs hq hw => ?_)
  obtain ⟨k0_95, kg0_96, kg1_97, kg2_98, rfl, rfl⟩ := hq
  have hw : kW γ A [(z48, .inl (γ.2.1 3, 4, .inl ((upd il m9 1)))), (z40, .inl (γ.2.1 0, 5, .inl gs)), (z41, .inl (γ.2.1 0, 40, .inl go)), (z42, .inl (γ.2.1 3, 40, .inl gm)), (z43, .inl (γ.2.1 0, 133, .inl fs)), (z46, .inl (γ.2.1 0, 532, .inl fm9)), (z, .inr (11, [.int 0, .int n1, .ref z2, .int n3, .int n4, .int n5, .int n6, .long n7, .int n8, .int n9, .ref z10, .ref z11, .ref z12, .ref z13, .ref z14, .ref z15, .ref z16, .ref z17, .ref z18, .ref z19, .int n20, .int n21, .ref z22, .ref z23, .ref z24, .ref z25, .ref z26, .ref z27, .ref z28, .ref z29, .ref z30, .ref z31, .ref z32, .ref z33, .int n34, .long n35, .ref z36, .ref z37, .ref z38, .ref z39, .ref z40, .ref z41, .ref z42, .ref z43, .ref z44, .ref z45, .ref z46, .ref z47, .ref z48, .int n49, .int n50, .int n51, .int n52, .int n53, .int n54, .ref z55, .ref z56, .int n57, .int n58, .ref z59, .ref z60, .ref z61, .int n62, .long n63])), (z36, .inl (γ.2.1 0, 6, .inl k0_95)), (z37, .inl (γ.2.1 0, 240, .inl kg0_96)), (z38, .inl (γ.2.1 0, 240, .inl kg1_97)), (z39, .inl (γ.2.1 0, 240, .inl kg2_98))] s H locs := hw
  refine W.eq (g2 := F0 m 68 ls []) rfl ?_
  refine lv_aload_n hx hb dX12_mark_68 rfl (lv_at hl 2 rfl) ?_
  refine lv_iload_n hx hb dX12_mark_69 rfl (lv_at hl 1 rfl) ?_
  refine lv_iload hx hb dX12_mark_70 (lv_at hl 0 rfl) ?_
  refine k_V (wr := [(z48, .inl (γ.2.1 3, 4, .inl ((upd il m9 1)))), (z43, .inl (γ.2.1 0, 133, .inl fs)), (z46, .inl (γ.2.1 0, 532, .inl fm9)), (z36, .inl (γ.2.1 0, 6, .inl k0_95)), (z37, .inl (γ.2.1 0, 240, .inl kg0_96)), (z38, .inl (γ.2.1 0, 240, .inl kg1_97)), (z39, .inl (γ.2.1 0, 240, .inl kg2_98))]) 2 gw_1803 gw_1805 gp_112 gw_15 gw_1806 hd_X12_laysGuesses hC hw (c_lgx γ l z z2 z10 z11 z12 z13 z14 z15 z16 z17 z18 z19 z22 z23 z24 z25 z26 z27 z28 z29 z30 z31 z32 z33 z36 z37 z38 z39 z40 z41 z42 z43 z44 z45 z46 z47 z48 z55 z56 z59 z60 z61 0 n1 n3 n4 n5 n6 n7 n8 n9 n20 n21 n34 n35 n49 n50 n51 n52 n53 n54 n57 n58 n62 n63 gs go gm 0 (1 + m9) (by omega) (by omega) (by omega)) ⟨by decide, by decide⟩ ⟨by decide, by decide⟩ hl.1 rfl 6 rfl rfl rfl (Nat.le_of_ble_eq_true rfl) [6, 1, 2, 3] [0, 4, 5, 7, 8, 9, 10] rfl rfl rfl rfl (by decide) dX12_mark_72 (fun r w1 H locs hq hw => ?_)
  obtain ⟨rfl, rfl⟩ := hq
  have hw : kW γ A [(z48, .inl (γ.2.1 3, 4, .inl ((upd il m9 1)))), (z43, .inl (γ.2.1 0, 133, .inl fs)), (z46, .inl (γ.2.1 0, 532, .inl fm9)), (z36, .inl (γ.2.1 0, 6, .inl k0_95)), (z37, .inl (γ.2.1 0, 240, .inl kg0_96)), (z38, .inl (γ.2.1 0, 240, .inl kg1_97)), (z39, .inl (γ.2.1 0, 240, .inl kg2_98)), (z, .inr (11, [.int 0, .int n1, .ref z2, .int n3, .int n4, .int n5, .int n6, .long n7, .int n8, .int n9, .ref z10, .ref z11, .ref z12, .ref z13, .ref z14, .ref z15, .ref z16, .ref z17, .ref z18, .ref z19, .int n20, .int n21, .ref z22, .ref z23, .ref z24, .ref z25, .ref z26, .ref z27, .ref z28, .ref z29, .ref z30, .ref z31, .ref z32, .ref z33, .int n34, .long n35, .ref z36, .ref z37, .ref z38, .ref z39, .ref z40, .ref z41, .ref z42, .ref z43, .ref z44, .ref z45, .ref z46, .ref z47, .ref z48, .int n49, .int n50, .int n51, .int n52, .int n53, .int n54, .ref z55, .ref z56, .int n57, .int n58, .ref z59, .ref z60, .ref z61, .int n62, .long n63])), (z40, .inl (γ.2.1 0, 5, .inl ((upd gs (1 + m9) (gs 0))))), (z41, .inl (γ.2.1 0, 40, .inl ((lgP go 0 (1 + m9) 8)))), (z42, .inl (γ.2.1 3, 40, .inl ((lgZ gm 0 (1 + m9) 8))))] s H locs := hw
  refine W.eq (g2 := F0 m 75 ls []) rfl ?_
  refine lv_iload_n hx hb dX12_mark_75 rfl (lv_at hl 4 rfl) ?_
  refine lv_if_eq (tgt := 104) hx hb dX12_mark_76 (by decide) (fun _ => ?_) (fun h => absurd (by decide) h)
  refine lv_aload_n hx hb dX12_mark_104 rfl (lv_at hl 2 rfl) ?_
  refine fg_RX12_102 hC hw 7 rfl rfl dX12_mark_105 ?_
  refine lv_iconst (v := 0) hx hb dX12_mark_108 (by decide) ?_
  refine lv_aload_n hx hb dX12_mark_109 rfl (lv_at hl 2 rfl) ?_
  refine fg_RX12_111 hC hw 7 rfl rfl dX12_mark_110 ?_
  refine lv_sipush (v := 133) hx hb dX12_mark_113 (by decide) ?_
  refine lv_iload_n hx hb dX12_mark_116 rfl (lv_at hl 3 rfl) ?_
  refine lv_imul hx hb dX12_mark_117 ?_
  refine lv_topi (fun x_99 ex_99 => ?_)
  obtain rfl : x_99 = (nI (133 * m9)) := ex_99.trans (pk_mul 133 m9)
  refine k_S (wr := [(z48, .inl (γ.2.1 3, 4, .inl ((upd il m9 1)))), (z36, .inl (γ.2.1 0, 6, .inl k0_95)), (z37, .inl (γ.2.1 0, 240, .inl kg0_96)), (z38, .inl (γ.2.1 0, 240, .inl kg1_97)), (z39, .inl (γ.2.1 0, 240, .inl kg2_98)), (z, .inr (11, [.int 0, .int n1, .ref z2, .int n3, .int n4, .int n5, .int n6, .long n7, .int n8, .int n9, .ref z10, .ref z11, .ref z12, .ref z13, .ref z14, .ref z15, .ref z16, .ref z17, .ref z18, .ref z19, .int n20, .int n21, .ref z22, .ref z23, .ref z24, .ref z25, .ref z26, .ref z27, .ref z28, .ref z29, .ref z30, .ref z31, .ref z32, .ref z33, .int n34, .long n35, .ref z36, .ref z37, .ref z38, .ref z39, .ref z40, .ref z41, .ref z42, .ref z43, .ref z44, .ref z45, .ref z46, .ref z47, .ref z48, .int n49, .int n50, .int n51, .int n52, .int n53, .int n54, .ref z55, .ref z56, .int n57, .int n58, .ref z59, .ref z60, .ref z61, .int n62, .long n63])), (z40, .inl (γ.2.1 0, 5, .inl ((upd gs (1 + m9) (gs 0))))), (z41, .inl (γ.2.1 0, 40, .inl ((lgP go 0 (1 + m9) 8)))), (z42, .inl (γ.2.1 3, 40, .inl ((lgZ gm 0 (1 + m9) 8))))]) 4 gw_1589 gw_1590 gw_15 gw_1591 hd_X12_copies hC hw (c_X12_copies γ l z43 133 fs 0 z46 532 fm9 (133 * m9) (by omega) (by omega) (by omega) (by omega)) ⟨by decide, by decide⟩ ⟨by decide, by decide⟩ hl.1 rfl rfl (Nat.le_of_ble_eq_true rfl) [1, 2] [0, 3, 4, 5, 6, 7, 8, 9, 10] rfl rfl rfl rfl (by decide) dX12_mark_118 (fun r w1 H locs hq hw => ?_)
  obtain ⟨f9_100, rfl, rfl⟩ := hq
  have hw : kW γ A [(z48, .inl (γ.2.1 3, 4, .inl ((upd il m9 1)))), (z36, .inl (γ.2.1 0, 6, .inl k0_95)), (z37, .inl (γ.2.1 0, 240, .inl kg0_96)), (z38, .inl (γ.2.1 0, 240, .inl kg1_97)), (z39, .inl (γ.2.1 0, 240, .inl kg2_98)), (z, .inr (11, [.int 0, .int n1, .ref z2, .int n3, .int n4, .int n5, .int n6, .long n7, .int n8, .int n9, .ref z10, .ref z11, .ref z12, .ref z13, .ref z14, .ref z15, .ref z16, .ref z17, .ref z18, .ref z19, .int n20, .int n21, .ref z22, .ref z23, .ref z24, .ref z25, .ref z26, .ref z27, .ref z28, .ref z29, .ref z30, .ref z31, .ref z32, .ref z33, .int n34, .long n35, .ref z36, .ref z37, .ref z38, .ref z39, .ref z40, .ref z41, .ref z42, .ref z43, .ref z44, .ref z45, .ref z46, .ref z47, .ref z48, .int n49, .int n50, .int n51, .int n52, .int n53, .int n54, .ref z55, .ref z56, .int n57, .int n58, .ref z59, .ref z60, .ref z61, .int n62, .long n63])), (z40, .inl (γ.2.1 0, 5, .inl ((upd gs (1 + m9) (gs 0))))), (z41, .inl (γ.2.1 0, 40, .inl ((lgP go 0 (1 + m9) 8)))), (z42, .inl (γ.2.1 3, 40, .inl ((lgZ gm 0 (1 + m9) 8)))), (z43, .inl (γ.2.1 0, 133, .inl fs)), (z46, .inl (γ.2.1 0, 532, .inl f9_100))] s H locs := hw
  refine W.eq (g2 := F0 m 121 ls []) rfl ?_
  refine lv_iconst (v := 1) hx hb dX12_mark_121 (by decide) ?_
  exact k_zret hC hr hlocks rfl hw [5, 0, 1, 2, 3, 4, 6, 7, 8, 9, 10] rfl rfl ⟨k0_95, kg0_96, kg1_97, kg2_98, f9_100, rfl, rfl⟩ (by decide) (by decide) dX12_mark_122

set_option maxHeartbeats 4000000 in
set_option maxRecDepth 100000 in
theorem c_mk_b1 (γ : kΓ) (l : Launch) (z : Nat) (z2 : Nat) (z10 : Nat) (z11 : Nat) (z12 : Nat) (z13 : Nat) (z14 : Nat) (z15 : Nat) (z16 : Nat) (z17 : Nat) (z18 : Nat) (z19 : Nat) (z22 : Nat) (z23 : Nat) (z24 : Nat) (z25 : Nat) (z26 : Nat) (z27 : Nat) (z28 : Nat) (z29 : Nat) (z30 : Nat) (z31 : Nat) (z32 : Nat) (z33 : Nat) (z36 : Nat) (z37 : Nat) (z38 : Nat) (z39 : Nat) (z40 : Nat) (z41 : Nat) (z42 : Nat) (z43 : Nat) (z44 : Nat) (z45 : Nat) (z46 : Nat) (z47 : Nat) (z48 : Nat) (z55 : Nat) (z56 : Nat) (z59 : Nat) (z60 : Nat) (z61 : Nat) (n0 : Int32) (n1 : Int32) (n3 : Int32) (n4 : Int32) (n5 : Int32) (n6 : Int32) (n7 : Int64) (n8 : Int32) (n9 : Int32) (n20 : Int32) (n21 : Int32) (n34 : Int32) (n35 : Int64) (n49 : Int32) (n50 : Int32) (n51 : Int32) (n52 : Int32) (n53 : Int32) (n54 : Int32) (n57 : Int32) (n58 : Int32) (n62 : Int32) (n63 : Int64) (il : Nat → Int32) (ln : Nat → Int32) (wa : Nat → Int32) (wb : Nat → Int32) (wc9 : Nat → Int32) (gs : Nat → Int32) (go : Nat → Int32) (gm : Nat → Int32) (fs : Nat → Int32) (fm9 : Nat → Int32) (m9 : Nat) (hm : m9 < 4) (hlb : ¬ il m9 = 0) : kM γ l yX12_mark cX12_mark 5 ((some .boolean)) ({ frames := 1, cells := 0, slots := 0, locals := 24 } : Room) [.ref z, .int (nI m9), .int 1] [(z, .inr (11, [.int n0, .int n1, .ref z2, .int n3, .int n4, .int n5, .int n6, .long n7, .int n8, .int n9, .ref z10, .ref z11, .ref z12, .ref z13, .ref z14, .ref z15, .ref z16, .ref z17, .ref z18, .ref z19, .int n20, .int n21, .ref z22, .ref z23, .ref z24, .ref z25, .ref z26, .ref z27, .ref z28, .ref z29, .ref z30, .ref z31, .ref z32, .ref z33, .int n34, .long n35, .ref z36, .ref z37, .ref z38, .ref z39, .ref z40, .ref z41, .ref z42, .ref z43, .ref z44, .ref z45, .ref z46, .ref z47, .ref z48, .int n49, .int n50, .int n51, .int n52, .int n53, .int n54, .ref z55, .ref z56, .int n57, .int n58, .ref z59, .ref z60, .ref z61, .int n62, .long n63])), (z48, .inl (γ.2.1 3, 4, .inl il)), (z36, .inl (γ.2.1 0, 6, .inl ln)), (z37, .inl (γ.2.1 0, 240, .inl wa)), (z38, .inl (γ.2.1 0, 240, .inl wb)), (z39, .inl (γ.2.1 0, 240, .inl wc9)), (z40, .inl (γ.2.1 0, 5, .inl gs)), (z41, .inl (γ.2.1 0, 40, .inl go)), (z42, .inl (γ.2.1 3, 40, .inl gm)), (z43, .inl (γ.2.1 0, 133, .inl fs)), (z46, .inl (γ.2.1 0, 532, .inl fm9))] (fun r w1 => ∃ (k_ln : Nat → Int32), ∃ (k_wa : Nat → Int32), ∃ (k_wb : Nat → Int32), ∃ (k_wc : Nat → Int32), ∃ (k_s : Nat → Int32), r = some (.int 1) ∧ w1 = [(z, .inr (11, [.int 0, .int n1, .ref z2, .int n3, .int n4, .int n5, .int n6, .long n7, .int n8, .int n9, .ref z10, .ref z11, .ref z12, .ref z13, .ref z14, .ref z15, .ref z16, .ref z17, .ref z18, .ref z19, .int n20, .int n21, .ref z22, .ref z23, .ref z24, .ref z25, .ref z26, .ref z27, .ref z28, .ref z29, .ref z30, .ref z31, .ref z32, .ref z33, .int n34, .long n35, .ref z36, .ref z37, .ref z38, .ref z39, .ref z40, .ref z41, .ref z42, .ref z43, .ref z44, .ref z45, .ref z46, .ref z47, .ref z48, .int 0, .int n50, .int n51, .int n52, .int n53, .int n54, .ref z55, .ref z56, .int n57, .int n58, .ref z59, .ref z60, .ref z61, .int n62, .long n63])), (z48, .inl (γ.2.1 3, 4, .inl ((upd il m9 1)))), (z36, .inl (γ.2.1 0, 6, .inl k_ln)), (z37, .inl (γ.2.1 0, 240, .inl k_wa)), (z38, .inl (γ.2.1 0, 240, .inl k_wb)), (z39, .inl (γ.2.1 0, 240, .inl k_wc)), (z40, .inl (γ.2.1 0, 5, .inl ((upd gs 0 (gs (1 + m9)))))), (z41, .inl (γ.2.1 0, 40, .inl ((lgP go (1 + m9) 0 8)))), (z42, .inl (γ.2.1 3, 40, .inl ((lgZ gm (1 + m9) 0 8)))), (z43, .inl (γ.2.1 0, 133, .inl k_s)), (z46, .inl (γ.2.1 0, 532, .inl fm9))]) := by
  refine k_ofW (by decide) (Nat.le_of_ble_eq_true rfl) ?_
  intro p9 e s m below meth c A ls hC hr hlocks hname hw hl
  have hx := hC.1
  have hb := hC.2.1
  have hl : lv_has ls 5 [(0, .ref z), (1, .int (nI m9)), (2, .int 1)] := hl
  refine lv_aload_n hx hb dX12_mark_0 rfl (lv_at hl 0 rfl) ?_
  refine lv_iconst (v := 0) hx hb dX12_mark_1 (by decide) ?_
  refine fs_RX12_143 hC hw 0 rfl rfl rfl (Nat.le_of_ble_eq_true rfl) dX12_mark_2 (fun H locs hw => ?_)
  have hw : kW γ A [(z, .inr (11, [.int 0, .int n1, .ref z2, .int n3, .int n4, .int n5, .int n6, .long n7, .int n8, .int n9, .ref z10, .ref z11, .ref z12, .ref z13, .ref z14, .ref z15, .ref z16, .ref z17, .ref z18, .ref z19, .int n20, .int n21, .ref z22, .ref z23, .ref z24, .ref z25, .ref z26, .ref z27, .ref z28, .ref z29, .ref z30, .ref z31, .ref z32, .ref z33, .int n34, .long n35, .ref z36, .ref z37, .ref z38, .ref z39, .ref z40, .ref z41, .ref z42, .ref z43, .ref z44, .ref z45, .ref z46, .ref z47, .ref z48, .int n49, .int n50, .int n51, .int n52, .int n53, .int n54, .ref z55, .ref z56, .int n57, .int n58, .ref z59, .ref z60, .ref z61, .int n62, .long n63])), (z48, .inl (γ.2.1 3, 4, .inl il)), (z36, .inl (γ.2.1 0, 6, .inl ln)), (z37, .inl (γ.2.1 0, 240, .inl wa)), (z38, .inl (γ.2.1 0, 240, .inl wb)), (z39, .inl (γ.2.1 0, 240, .inl wc9)), (z40, .inl (γ.2.1 0, 5, .inl gs)), (z41, .inl (γ.2.1 0, 40, .inl go)), (z42, .inl (γ.2.1 3, 40, .inl gm)), (z43, .inl (γ.2.1 0, 133, .inl fs)), (z46, .inl (γ.2.1 0, 532, .inl fm9))] s H locs := hw
  refine lv_iload_n hx hb dX12_mark_5 rfl (lv_at hl 1 rfl) ?_
  refine lv_iconst (v := 0) hx hb dX12_mark_6 (by decide) ?_
  refine lv_iconst (v := 3) hx hb dX12_mark_7 (by decide) ?_
  refine k_S (wr := [(z, .inr (11, [.int 0, .int n1, .ref z2, .int n3, .int n4, .int n5, .int n6, .long n7, .int n8, .int n9, .ref z10, .ref z11, .ref z12, .ref z13, .ref z14, .ref z15, .ref z16, .ref z17, .ref z18, .ref z19, .int n20, .int n21, .ref z22, .ref z23, .ref z24, .ref z25, .ref z26, .ref z27, .ref z28, .ref z29, .ref z30, .ref z31, .ref z32, .ref z33, .int n34, .long n35, .ref z36, .ref z37, .ref z38, .ref z39, .ref z40, .ref z41, .ref z42, .ref z43, .ref z44, .ref z45, .ref z46, .ref z47, .ref z48, .int n49, .int n50, .int n51, .int n52, .int n53, .int n54, .ref z55, .ref z56, .int n57, .int n58, .ref z59, .ref z60, .ref z61, .int n62, .long n63])), (z48, .inl (γ.2.1 3, 4, .inl il)), (z36, .inl (γ.2.1 0, 6, .inl ln)), (z37, .inl (γ.2.1 0, 240, .inl wa)), (z38, .inl (γ.2.1 0, 240, .inl wb)), (z39, .inl (γ.2.1 0, 240, .inl wc9)), (z40, .inl (γ.2.1 0, 5, .inl gs)), (z41, .inl (γ.2.1 0, 40, .inl go)), (z42, .inl (γ.2.1 3, 40, .inl gm)), (z43, .inl (γ.2.1 0, 133, .inl fs)), (z46, .inl (γ.2.1 0, 532, .inl fm9))]) 3 gw_1468 gw_1469 gw_15 gw_1470 hd_X12_within hC hw (c_wi_t γ l (nI m9) 0 3 (nI_n0 (by omega)) (nI_3 hm)) ⟨by decide, by decide⟩ ⟨by decide, by decide⟩ hl.1 rfl rfl (Nat.le_of_ble_eq_true rfl) [] [0, 1, 2, 3, 4, 5, 6, 7, 8, 9, 10] rfl rfl rfl rfl (by decide) dX12_mark_8 (fun r w1 H locs hq hw => ?_)
  obtain ⟨rfl, rfl⟩ := hq
  have hw : kW γ A [(z, .inr (11, [.int 0, .int n1, .ref z2, .int n3, .int n4, .int n5, .int n6, .long n7, .int n8, .int n9, .ref z10, .ref z11, .ref z12, .ref z13, .ref z14, .ref z15, .ref z16, .ref z17, .ref z18, .ref z19, .int n20, .int n21, .ref z22, .ref z23, .ref z24, .ref z25, .ref z26, .ref z27, .ref z28, .ref z29, .ref z30, .ref z31, .ref z32, .ref z33, .int n34, .long n35, .ref z36, .ref z37, .ref z38, .ref z39, .ref z40, .ref z41, .ref z42, .ref z43, .ref z44, .ref z45, .ref z46, .ref z47, .ref z48, .int n49, .int n50, .int n51, .int n52, .int n53, .int n54, .ref z55, .ref z56, .int n57, .int n58, .ref z59, .ref z60, .ref z61, .int n62, .long n63])), (z48, .inl (γ.2.1 3, 4, .inl il)), (z36, .inl (γ.2.1 0, 6, .inl ln)), (z37, .inl (γ.2.1 0, 240, .inl wa)), (z38, .inl (γ.2.1 0, 240, .inl wb)), (z39, .inl (γ.2.1 0, 240, .inl wc9)), (z40, .inl (γ.2.1 0, 5, .inl gs)), (z41, .inl (γ.2.1 0, 40, .inl go)), (z42, .inl (γ.2.1 3, 40, .inl gm)), (z43, .inl (γ.2.1 0, 133, .inl fs)), (z46, .inl (γ.2.1 0, 532, .inl fm9))] s H locs := hw
  refine W.eq (g2 := F0 m 11 ls [.int 1]) rfl ?_
  refine lv_if_eq (tgt := 27) hx hb dX12_mark_11 (by decide) (fun h => absurd h (by decide)) (fun _ => ?_)
  refine lv_iload_n hx hb dX12_mark_14 rfl (lv_at hl 2 rfl) ?_
  refine lv_if_eq (tgt := 29) hx hb dX12_mark_15 (by decide) (fun h => absurd h (by decide)) (fun _ => ?_)
  refine lv_aload_n hx hb dX12_mark_18 rfl (lv_at hl 0 rfl) ?_
  refine fg_RX12_117 hC hw 0 rfl rfl dX12_mark_19 ?_
  refine lv_iload_n hx hb dX12_mark_22 rfl (lv_at hl 1 rfl) ?_
  refine k_zald hC hw 1 rfl (vp_in_nI hm (by decide)) dX12_mark_23 ?_
  refine lv_topi (fun x_101 ex_101 => ?_)
  obtain rfl : x_101 = il m9 := (show x_101 = il (nI m9 : Int32).toNatClampNeg from ex_101).trans (by rw [nI_clamp (by omega)])
  refine lv_if_ne (tgt := 29) hx hb dX12_mark_24 (by decide) (fun _ => ?_) (fun h => absurd h hlb)
  refine lv_aload_n hx hb dX12_mark_29 rfl (lv_at hl 0 rfl) ?_
  refine fg_RX12_117 hC hw 0 rfl rfl dX12_mark_30 ?_
  refine lv_iload_n hx hb dX12_mark_33 rfl (lv_at hl 1 rfl) ?_
  refine lv_iconst (v := 1) hx hb dX12_mark_34 (by decide) ?_
  refine k_zast hC hw 1 rfl (vp_in_nI hm (by decide)) dX12_mark_35 (fun H locs hw => ?_)
  obtain ⟨f_102, ef_102⟩ : ∃ g, g = upd il ((nI m9) : Int32).toNatClampNeg (vp_nar .boolean 1) := ⟨_, rfl⟩
  have hw : kW γ A [(z, .inr (11, [.int 0, .int n1, .ref z2, .int n3, .int n4, .int n5, .int n6, .long n7, .int n8, .int n9, .ref z10, .ref z11, .ref z12, .ref z13, .ref z14, .ref z15, .ref z16, .ref z17, .ref z18, .ref z19, .int n20, .int n21, .ref z22, .ref z23, .ref z24, .ref z25, .ref z26, .ref z27, .ref z28, .ref z29, .ref z30, .ref z31, .ref z32, .ref z33, .int n34, .long n35, .ref z36, .ref z37, .ref z38, .ref z39, .ref z40, .ref z41, .ref z42, .ref z43, .ref z44, .ref z45, .ref z46, .ref z47, .ref z48, .int n49, .int n50, .int n51, .int n52, .int n53, .int n54, .ref z55, .ref z56, .int n57, .int n58, .ref z59, .ref z60, .ref z61, .int n62, .long n63])), (z48, .inl (γ.2.1 3, 4, .inl f_102)), (z36, .inl (γ.2.1 0, 6, .inl ln)), (z37, .inl (γ.2.1 0, 240, .inl wa)), (z38, .inl (γ.2.1 0, 240, .inl wb)), (z39, .inl (γ.2.1 0, 240, .inl wc9)), (z40, .inl (γ.2.1 0, 5, .inl gs)), (z41, .inl (γ.2.1 0, 40, .inl go)), (z42, .inl (γ.2.1 3, 40, .inl gm)), (z43, .inl (γ.2.1 0, 133, .inl fs)), (z46, .inl (γ.2.1 0, 532, .inl fm9))] s H locs := by rw [ef_102]; exact hw
  have hE : f_102 = upd il m9 1 := ef_102.trans (by rw [nI_clamp (by omega)]; rfl)
  rw [hE] at hw
  have hw : kW γ A [(z, .inr (11, [.int 0, .int n1, .ref z2, .int n3, .int n4, .int n5, .int n6, .long n7, .int n8, .int n9, .ref z10, .ref z11, .ref z12, .ref z13, .ref z14, .ref z15, .ref z16, .ref z17, .ref z18, .ref z19, .int n20, .int n21, .ref z22, .ref z23, .ref z24, .ref z25, .ref z26, .ref z27, .ref z28, .ref z29, .ref z30, .ref z31, .ref z32, .ref z33, .int n34, .long n35, .ref z36, .ref z37, .ref z38, .ref z39, .ref z40, .ref z41, .ref z42, .ref z43, .ref z44, .ref z45, .ref z46, .ref z47, .ref z48, .int n49, .int n50, .int n51, .int n52, .int n53, .int n54, .ref z55, .ref z56, .int n57, .int n58, .ref z59, .ref z60, .ref z61, .int n62, .long n63])), (z48, .inl (γ.2.1 3, 4, .inl ((upd il m9 1)))), (z36, .inl (γ.2.1 0, 6, .inl ln)), (z37, .inl (γ.2.1 0, 240, .inl wa)), (z38, .inl (γ.2.1 0, 240, .inl wb)), (z39, .inl (γ.2.1 0, 240, .inl wc9)), (z40, .inl (γ.2.1 0, 5, .inl gs)), (z41, .inl (γ.2.1 0, 40, .inl go)), (z42, .inl (γ.2.1 3, 40, .inl gm)), (z43, .inl (γ.2.1 0, 133, .inl fs)), (z46, .inl (γ.2.1 0, 532, .inl fm9))] s H locs := hw
  refine lv_iload_n hx hb dX12_mark_36 rfl (lv_at hl 2 rfl) ?_
  refine lv_if_eq (tgt := 46) hx hb dX12_mark_37 (by decide) (fun h => absurd h (by decide)) (fun _ => ?_)
  refine lv_iconst (v := 1) hx hb dX12_mark_40 (by decide) ?_
  refine lv_iload_n hx hb dX12_mark_41 rfl (lv_at hl 1 rfl) ?_
  refine lv_iadd hx hb dX12_mark_42 ?_
  refine lv_topi (fun x_103 ex_103 => ?_)
  obtain rfl : x_103 = (nI (1 + m9)) := ex_103.trans (nI_add 1 m9)
  refine lv_goto (tgt := 47) hx hb dX12_mark_43 (by decide) ?_
  refine lv_istore_n (lv' := [(3, .int (nI (1 + m9))), (0, .ref z), (1, .int (nI m9)), (2, .int 1)]) hx hb dX12_mark_47 rfl hl (by decide) rfl (fun ls hl => ?_)
  refine lv_iload_n hx hb dX12_mark_48 rfl (lv_at hl 3 rfl) ?_
  refine lv_if_eq (tgt := 56) hx hb dX12_mark_49 (by decide) (fun h => absurd h (by decide)) (fun _ => ?_)
  refine lv_iconst (v := 0) hx hb dX12_mark_52 (by decide) ?_
  refine lv_goto (tgt := 59) hx hb dX12_mark_53 (by decide) ?_
  refine lv_istore (lv' := [(4, .int 0), (3, .int (nI (1 + m9))), (0, .ref z), (1, .int (nI m9)), (2, .int 1)]) hx hb dX12_mark_59 hl (by decide) rfl (fun ls hl => ?_)
  refine lv_aload_n hx hb dX12_mark_61 rfl (lv_at hl 2 rfl) ?_
  refine lv_iload_n hx hb dX12_mark_62 rfl (lv_at hl 1 rfl) ?_
  refine lv_iload hx hb dX12_mark_63 (lv_at hl 0 rfl) ?_
  refine k_V (wr := [(z48, .inl (γ.2.1 3, 4, .inl ((upd il m9 1)))), (z40, .inl (γ.2.1 0, 5, .inl gs)), (z41, .inl (γ.2.1 0, 40, .inl go)), (z42, .inl (γ.2.1 3, 40, .inl gm)), (z43, .inl (γ.2.1 0, 133, .inl fs)), (z46, .inl (γ.2.1 0, 532, .inl fm9))]) 2 gw_1537 gw_1539 gp_78 gw_15 gw_1540 hd_X12_laysLines hC hw (c_X12_laysLines γ l z z2 z10 z11 z12 z13 z14 z15 z16 z17 z18 z19 z22 z23 z24 z25 z26 z27 z28 z29 z30 z31 z32 z33 z36 z37 z38 z39 z40 z41 z42 z43 z44 z45 z46 z47 z48 z55 z56 z59 z60 z61 0 n1 n3 n4 n5 n6 n7 n8 n9 n20 n21 n34 n35 n49 n50 n51 n52 n53 n54 n57 n58 n62 n63 ln wa wb wc9 (1 + m9) 0 (by omega) (by omega)) ⟨by decide, by decide⟩ ⟨by decide, by decide⟩ hl.1 rfl 0 rfl rfl rfl (Nat.le_of_ble_eq_true rfl) [0, 2, 3, 4, 5] [1, 6, 7, 8, 9, 10] rfl rfl rfl rfl (by decide) dX12_mark_65 (fun r w1 H locs hq hw => ?_)
  obtain ⟨k0_104, kg0_105, kg1_106, kg2_107, rfl, rfl⟩ := hq
  have hw : kW γ A [(z48, .inl (γ.2.1 3, 4, .inl ((upd il m9 1)))), (z40, .inl (γ.2.1 0, 5, .inl gs)), (z41, .inl (γ.2.1 0, 40, .inl go)), (z42, .inl (γ.2.1 3, 40, .inl gm)), (z43, .inl (γ.2.1 0, 133, .inl fs)), (z46, .inl (γ.2.1 0, 532, .inl fm9)), (z, .inr (11, [.int 0, .int n1, .ref z2, .int n3, .int n4, .int n5, .int n6, .long n7, .int n8, .int n9, .ref z10, .ref z11, .ref z12, .ref z13, .ref z14, .ref z15, .ref z16, .ref z17, .ref z18, .ref z19, .int n20, .int n21, .ref z22, .ref z23, .ref z24, .ref z25, .ref z26, .ref z27, .ref z28, .ref z29, .ref z30, .ref z31, .ref z32, .ref z33, .int n34, .long n35, .ref z36, .ref z37, .ref z38, .ref z39, .ref z40, .ref z41, .ref z42, .ref z43, .ref z44, .ref z45, .ref z46, .ref z47, .ref z48, .int n49, .int n50, .int n51, .int n52, .int n53, .int n54, .ref z55, .ref z56, .int n57, .int n58, .ref z59, .ref z60, .ref z61, .int n62, .long n63])), (z36, .inl (γ.2.1 0, 6, .inl k0_104)), (z37, .inl (γ.2.1 0, 240, .inl kg0_105)), (z38, .inl (γ.2.1 0, 240, .inl kg1_106)), (z39, .inl (γ.2.1 0, 240, .inl kg2_107))] s H locs := hw
  refine W.eq (g2 := F0 m 68 ls []) rfl ?_
  refine lv_aload_n hx hb dX12_mark_68 rfl (lv_at hl 2 rfl) ?_
  refine lv_iload_n hx hb dX12_mark_69 rfl (lv_at hl 1 rfl) ?_
  refine lv_iload hx hb dX12_mark_70 (lv_at hl 0 rfl) ?_
  refine k_V (wr := [(z48, .inl (γ.2.1 3, 4, .inl ((upd il m9 1)))), (z43, .inl (γ.2.1 0, 133, .inl fs)), (z46, .inl (γ.2.1 0, 532, .inl fm9)), (z36, .inl (γ.2.1 0, 6, .inl k0_104)), (z37, .inl (γ.2.1 0, 240, .inl kg0_105)), (z38, .inl (γ.2.1 0, 240, .inl kg1_106)), (z39, .inl (γ.2.1 0, 240, .inl kg2_107))]) 2 gw_1803 gw_1805 gp_112 gw_15 gw_1806 hd_X12_laysGuesses hC hw (c_lgx γ l z z2 z10 z11 z12 z13 z14 z15 z16 z17 z18 z19 z22 z23 z24 z25 z26 z27 z28 z29 z30 z31 z32 z33 z36 z37 z38 z39 z40 z41 z42 z43 z44 z45 z46 z47 z48 z55 z56 z59 z60 z61 0 n1 n3 n4 n5 n6 n7 n8 n9 n20 n21 n34 n35 n49 n50 n51 n52 n53 n54 n57 n58 n62 n63 gs go gm (1 + m9) 0 (by omega) (by omega) (by omega)) ⟨by decide, by decide⟩ ⟨by decide, by decide⟩ hl.1 rfl 6 rfl rfl rfl (Nat.le_of_ble_eq_true rfl) [6, 1, 2, 3] [0, 4, 5, 7, 8, 9, 10] rfl rfl rfl rfl (by decide) dX12_mark_72 (fun r w1 H locs hq hw => ?_)
  obtain ⟨rfl, rfl⟩ := hq
  have hw : kW γ A [(z48, .inl (γ.2.1 3, 4, .inl ((upd il m9 1)))), (z43, .inl (γ.2.1 0, 133, .inl fs)), (z46, .inl (γ.2.1 0, 532, .inl fm9)), (z36, .inl (γ.2.1 0, 6, .inl k0_104)), (z37, .inl (γ.2.1 0, 240, .inl kg0_105)), (z38, .inl (γ.2.1 0, 240, .inl kg1_106)), (z39, .inl (γ.2.1 0, 240, .inl kg2_107)), (z, .inr (11, [.int 0, .int n1, .ref z2, .int n3, .int n4, .int n5, .int n6, .long n7, .int n8, .int n9, .ref z10, .ref z11, .ref z12, .ref z13, .ref z14, .ref z15, .ref z16, .ref z17, .ref z18, .ref z19, .int n20, .int n21, .ref z22, .ref z23, .ref z24, .ref z25, .ref z26, .ref z27, .ref z28, .ref z29, .ref z30, .ref z31, .ref z32, .ref z33, .int n34, .long n35, .ref z36, .ref z37, .ref z38, .ref z39, .ref z40, .ref z41, .ref z42, .ref z43, .ref z44, .ref z45, .ref z46, .ref z47, .ref z48, .int n49, .int n50, .int n51, .int n52, .int n53, .int n54, .ref z55, .ref z56, .int n57, .int n58, .ref z59, .ref z60, .ref z61, .int n62, .long n63])), (z40, .inl (γ.2.1 0, 5, .inl ((upd gs 0 (gs (1 + m9)))))), (z41, .inl (γ.2.1 0, 40, .inl ((lgP go (1 + m9) 0 8)))), (z42, .inl (γ.2.1 3, 40, .inl ((lgZ gm (1 + m9) 0 8))))] s H locs := hw
  refine W.eq (g2 := F0 m 75 ls []) rfl ?_
  refine lv_iload_n hx hb dX12_mark_75 rfl (lv_at hl 4 rfl) ?_
  refine lv_if_eq (tgt := 104) hx hb dX12_mark_76 (by decide) (fun h => absurd h (by decide)) (fun _ => ?_)
  refine lv_aload_n hx hb dX12_mark_79 rfl (lv_at hl 2 rfl) ?_
  refine fg_RX12_111 hC hw 7 rfl rfl dX12_mark_80 ?_
  refine lv_sipush (v := 133) hx hb dX12_mark_83 (by decide) ?_
  refine lv_iload_n hx hb dX12_mark_86 rfl (lv_at hl 3 rfl) ?_
  refine lv_imul hx hb dX12_mark_87 ?_
  refine lv_topi (fun x_108 ex_108 => ?_)
  obtain rfl : x_108 = (nI (133 * m9)) := ex_108.trans (pk_mul 133 m9)
  refine lv_aload_n hx hb dX12_mark_88 rfl (lv_at hl 2 rfl) ?_
  refine fg_RX12_102 hC hw 7 rfl rfl dX12_mark_89 ?_
  refine lv_iconst (v := 0) hx hb dX12_mark_92 (by decide) ?_
  refine k_S (wr := [(z48, .inl (γ.2.1 3, 4, .inl ((upd il m9 1)))), (z36, .inl (γ.2.1 0, 6, .inl k0_104)), (z37, .inl (γ.2.1 0, 240, .inl kg0_105)), (z38, .inl (γ.2.1 0, 240, .inl kg1_106)), (z39, .inl (γ.2.1 0, 240, .inl kg2_107)), (z, .inr (11, [.int 0, .int n1, .ref z2, .int n3, .int n4, .int n5, .int n6, .long n7, .int n8, .int n9, .ref z10, .ref z11, .ref z12, .ref z13, .ref z14, .ref z15, .ref z16, .ref z17, .ref z18, .ref z19, .int n20, .int n21, .ref z22, .ref z23, .ref z24, .ref z25, .ref z26, .ref z27, .ref z28, .ref z29, .ref z30, .ref z31, .ref z32, .ref z33, .int n34, .long n35, .ref z36, .ref z37, .ref z38, .ref z39, .ref z40, .ref z41, .ref z42, .ref z43, .ref z44, .ref z45, .ref z46, .ref z47, .ref z48, .int n49, .int n50, .int n51, .int n52, .int n53, .int n54, .ref z55, .ref z56, .int n57, .int n58, .ref z59, .ref z60, .ref z61, .int n62, .long n63])), (z40, .inl (γ.2.1 0, 5, .inl ((upd gs 0 (gs (1 + m9)))))), (z41, .inl (γ.2.1 0, 40, .inl ((lgP go (1 + m9) 0 8)))), (z42, .inl (γ.2.1 3, 40, .inl ((lgZ gm (1 + m9) 0 8))))]) 4 gw_1589 gw_1590 gw_15 gw_1591 hd_X12_copies hC hw (c_X12_copies γ l z46 532 fm9 (133 * m9) z43 133 fs 0 (by omega) (by omega) (by omega) (by omega)) ⟨by decide, by decide⟩ ⟨by decide, by decide⟩ hl.1 rfl rfl (Nat.le_of_ble_eq_true rfl) [2, 1] [0, 3, 4, 5, 6, 7, 8, 9, 10] rfl rfl rfl rfl (by decide) dX12_mark_93 (fun r w1 H locs hq hw => ?_)
  obtain ⟨f9_109, rfl, rfl⟩ := hq
  have hw : kW γ A [(z48, .inl (γ.2.1 3, 4, .inl ((upd il m9 1)))), (z36, .inl (γ.2.1 0, 6, .inl k0_104)), (z37, .inl (γ.2.1 0, 240, .inl kg0_105)), (z38, .inl (γ.2.1 0, 240, .inl kg1_106)), (z39, .inl (γ.2.1 0, 240, .inl kg2_107)), (z, .inr (11, [.int 0, .int n1, .ref z2, .int n3, .int n4, .int n5, .int n6, .long n7, .int n8, .int n9, .ref z10, .ref z11, .ref z12, .ref z13, .ref z14, .ref z15, .ref z16, .ref z17, .ref z18, .ref z19, .int n20, .int n21, .ref z22, .ref z23, .ref z24, .ref z25, .ref z26, .ref z27, .ref z28, .ref z29, .ref z30, .ref z31, .ref z32, .ref z33, .int n34, .long n35, .ref z36, .ref z37, .ref z38, .ref z39, .ref z40, .ref z41, .ref z42, .ref z43, .ref z44, .ref z45, .ref z46, .ref z47, .ref z48, .int n49, .int n50, .int n51, .int n52, .int n53, .int n54, .ref z55, .ref z56, .int n57, .int n58, .ref z59, .ref z60, .ref z61, .int n62, .long n63])), (z40, .inl (γ.2.1 0, 5, .inl ((upd gs 0 (gs (1 + m9)))))), (z41, .inl (γ.2.1 0, 40, .inl ((lgP go (1 + m9) 0 8)))), (z42, .inl (γ.2.1 3, 40, .inl ((lgZ gm (1 + m9) 0 8)))), (z46, .inl (γ.2.1 0, 532, .inl fm9)), (z43, .inl (γ.2.1 0, 133, .inl f9_109))] s H locs := hw
  refine W.eq (g2 := F0 m 96 ls []) rfl ?_
  refine lv_aload_n hx hb dX12_mark_96 rfl (lv_at hl 2 rfl) ?_
  refine lv_iconst (v := 0) hx hb dX12_mark_97 (by decide) ?_
  refine fs_RX12_339 hC hw 5 rfl rfl rfl (Nat.le_of_ble_eq_true rfl) dX12_mark_98 (fun H locs hw => ?_)
  have hw : kW γ A [(z48, .inl (γ.2.1 3, 4, .inl ((upd il m9 1)))), (z36, .inl (γ.2.1 0, 6, .inl k0_104)), (z37, .inl (γ.2.1 0, 240, .inl kg0_105)), (z38, .inl (γ.2.1 0, 240, .inl kg1_106)), (z39, .inl (γ.2.1 0, 240, .inl kg2_107)), (z, .inr (11, [.int 0, .int n1, .ref z2, .int n3, .int n4, .int n5, .int n6, .long n7, .int n8, .int n9, .ref z10, .ref z11, .ref z12, .ref z13, .ref z14, .ref z15, .ref z16, .ref z17, .ref z18, .ref z19, .int n20, .int n21, .ref z22, .ref z23, .ref z24, .ref z25, .ref z26, .ref z27, .ref z28, .ref z29, .ref z30, .ref z31, .ref z32, .ref z33, .int n34, .long n35, .ref z36, .ref z37, .ref z38, .ref z39, .ref z40, .ref z41, .ref z42, .ref z43, .ref z44, .ref z45, .ref z46, .ref z47, .ref z48, .int 0, .int n50, .int n51, .int n52, .int n53, .int n54, .ref z55, .ref z56, .int n57, .int n58, .ref z59, .ref z60, .ref z61, .int n62, .long n63])), (z40, .inl (γ.2.1 0, 5, .inl ((upd gs 0 (gs (1 + m9)))))), (z41, .inl (γ.2.1 0, 40, .inl ((lgP go (1 + m9) 0 8)))), (z42, .inl (γ.2.1 3, 40, .inl ((lgZ gm (1 + m9) 0 8)))), (z46, .inl (γ.2.1 0, 532, .inl fm9)), (z43, .inl (γ.2.1 0, 133, .inl f9_109))] s H locs := hw
  refine lv_goto (tgt := 121) hx hb dX12_mark_101 (by decide) ?_
  refine lv_iconst (v := 1) hx hb dX12_mark_121 (by decide) ?_
  exact k_zret hC hr hlocks rfl hw [5, 0, 1, 2, 3, 4, 6, 7, 8, 10, 9] rfl rfl ⟨k0_104, kg0_105, kg1_106, kg2_107, f9_109, rfl, rfl⟩ (by decide) (by decide) dX12_mark_122

set_option maxHeartbeats 4000000 in
set_option maxRecDepth 100000 in
theorem c_mk_no (γ : kΓ) (l : Launch) (z : Nat) (z2 : Nat) (z10 : Nat) (z11 : Nat) (z12 : Nat) (z13 : Nat) (z14 : Nat) (z15 : Nat) (z16 : Nat) (z17 : Nat) (z18 : Nat) (z19 : Nat) (z22 : Nat) (z23 : Nat) (z24 : Nat) (z25 : Nat) (z26 : Nat) (z27 : Nat) (z28 : Nat) (z29 : Nat) (z30 : Nat) (z31 : Nat) (z32 : Nat) (z33 : Nat) (z36 : Nat) (z37 : Nat) (z38 : Nat) (z39 : Nat) (z40 : Nat) (z41 : Nat) (z42 : Nat) (z43 : Nat) (z44 : Nat) (z45 : Nat) (z46 : Nat) (z47 : Nat) (z48 : Nat) (z55 : Nat) (z56 : Nat) (z59 : Nat) (z60 : Nat) (z61 : Nat) (n0 : Int32) (n1 : Int32) (n3 : Int32) (n4 : Int32) (n5 : Int32) (n6 : Int32) (n7 : Int64) (n8 : Int32) (n9 : Int32) (n20 : Int32) (n21 : Int32) (n34 : Int32) (n35 : Int64) (n49 : Int32) (n50 : Int32) (n51 : Int32) (n52 : Int32) (n53 : Int32) (n54 : Int32) (n57 : Int32) (n58 : Int32) (n62 : Int32) (n63 : Int64) (il : Nat → Int32) (m9 : Nat) (hm : m9 < 4) (hlb : il m9 = 0) : kM γ l yX12_mark cX12_mark 5 ((some .boolean)) ({ frames := 1, cells := 0, slots := 0, locals := 22 } : Room) [.ref z, .int (nI m9), .int 1] [(z, .inr (11, [.int n0, .int n1, .ref z2, .int n3, .int n4, .int n5, .int n6, .long n7, .int n8, .int n9, .ref z10, .ref z11, .ref z12, .ref z13, .ref z14, .ref z15, .ref z16, .ref z17, .ref z18, .ref z19, .int n20, .int n21, .ref z22, .ref z23, .ref z24, .ref z25, .ref z26, .ref z27, .ref z28, .ref z29, .ref z30, .ref z31, .ref z32, .ref z33, .int n34, .long n35, .ref z36, .ref z37, .ref z38, .ref z39, .ref z40, .ref z41, .ref z42, .ref z43, .ref z44, .ref z45, .ref z46, .ref z47, .ref z48, .int n49, .int n50, .int n51, .int n52, .int n53, .int n54, .ref z55, .ref z56, .int n57, .int n58, .ref z59, .ref z60, .ref z61, .int n62, .long n63])), (z48, .inl (γ.2.1 3, 4, .inl il))] (fun r w1 => r = some (.int 0) ∧ w1 = [(z, .inr (11, [.int 0, .int n1, .ref z2, .int n3, .int n4, .int n5, .int n6, .long n7, .int n8, .int n9, .ref z10, .ref z11, .ref z12, .ref z13, .ref z14, .ref z15, .ref z16, .ref z17, .ref z18, .ref z19, .int n20, .int n21, .ref z22, .ref z23, .ref z24, .ref z25, .ref z26, .ref z27, .ref z28, .ref z29, .ref z30, .ref z31, .ref z32, .ref z33, .int n34, .long n35, .ref z36, .ref z37, .ref z38, .ref z39, .ref z40, .ref z41, .ref z42, .ref z43, .ref z44, .ref z45, .ref z46, .ref z47, .ref z48, .int n49, .int n50, .int n51, .int n52, .int n53, .int n54, .ref z55, .ref z56, .int n57, .int n58, .ref z59, .ref z60, .ref z61, .int n62, .long n63])), (z48, .inl (γ.2.1 3, 4, .inl il))]) := by
  refine k_ofW (by decide) (Nat.le_of_ble_eq_true rfl) ?_
  intro p9 e s m below meth c A ls hC hr hlocks hname hw hl
  have hx := hC.1
  have hb := hC.2.1
  have hl : lv_has ls 5 [(0, .ref z), (1, .int (nI m9)), (2, .int 1)] := hl
  refine lv_aload_n hx hb dX12_mark_0 rfl (lv_at hl 0 rfl) ?_
  refine lv_iconst (v := 0) hx hb dX12_mark_1 (by decide) ?_
  refine fs_RX12_143 hC hw 0 rfl rfl rfl (Nat.le_of_ble_eq_true rfl) dX12_mark_2 (fun H locs hw => ?_)
  have hw : kW γ A [(z, .inr (11, [.int 0, .int n1, .ref z2, .int n3, .int n4, .int n5, .int n6, .long n7, .int n8, .int n9, .ref z10, .ref z11, .ref z12, .ref z13, .ref z14, .ref z15, .ref z16, .ref z17, .ref z18, .ref z19, .int n20, .int n21, .ref z22, .ref z23, .ref z24, .ref z25, .ref z26, .ref z27, .ref z28, .ref z29, .ref z30, .ref z31, .ref z32, .ref z33, .int n34, .long n35, .ref z36, .ref z37, .ref z38, .ref z39, .ref z40, .ref z41, .ref z42, .ref z43, .ref z44, .ref z45, .ref z46, .ref z47, .ref z48, .int n49, .int n50, .int n51, .int n52, .int n53, .int n54, .ref z55, .ref z56, .int n57, .int n58, .ref z59, .ref z60, .ref z61, .int n62, .long n63])), (z48, .inl (γ.2.1 3, 4, .inl il))] s H locs := hw
  refine lv_iload_n hx hb dX12_mark_5 rfl (lv_at hl 1 rfl) ?_
  refine lv_iconst (v := 0) hx hb dX12_mark_6 (by decide) ?_
  refine lv_iconst (v := 3) hx hb dX12_mark_7 (by decide) ?_
  refine k_S (wr := [(z, .inr (11, [.int 0, .int n1, .ref z2, .int n3, .int n4, .int n5, .int n6, .long n7, .int n8, .int n9, .ref z10, .ref z11, .ref z12, .ref z13, .ref z14, .ref z15, .ref z16, .ref z17, .ref z18, .ref z19, .int n20, .int n21, .ref z22, .ref z23, .ref z24, .ref z25, .ref z26, .ref z27, .ref z28, .ref z29, .ref z30, .ref z31, .ref z32, .ref z33, .int n34, .long n35, .ref z36, .ref z37, .ref z38, .ref z39, .ref z40, .ref z41, .ref z42, .ref z43, .ref z44, .ref z45, .ref z46, .ref z47, .ref z48, .int n49, .int n50, .int n51, .int n52, .int n53, .int n54, .ref z55, .ref z56, .int n57, .int n58, .ref z59, .ref z60, .ref z61, .int n62, .long n63])), (z48, .inl (γ.2.1 3, 4, .inl il))]) 3 gw_1468 gw_1469 gw_15 gw_1470 hd_X12_within hC hw (c_wi_t γ l (nI m9) 0 3 (nI_n0 (by omega)) (nI_3 hm)) ⟨by decide, by decide⟩ ⟨by decide, by decide⟩ hl.1 rfl rfl (Nat.le_of_ble_eq_true rfl) [] [0, 1] rfl rfl rfl rfl (by decide) dX12_mark_8 (fun r w1 H locs hq hw => ?_)
  obtain ⟨rfl, rfl⟩ := hq
  have hw : kW γ A [(z, .inr (11, [.int 0, .int n1, .ref z2, .int n3, .int n4, .int n5, .int n6, .long n7, .int n8, .int n9, .ref z10, .ref z11, .ref z12, .ref z13, .ref z14, .ref z15, .ref z16, .ref z17, .ref z18, .ref z19, .int n20, .int n21, .ref z22, .ref z23, .ref z24, .ref z25, .ref z26, .ref z27, .ref z28, .ref z29, .ref z30, .ref z31, .ref z32, .ref z33, .int n34, .long n35, .ref z36, .ref z37, .ref z38, .ref z39, .ref z40, .ref z41, .ref z42, .ref z43, .ref z44, .ref z45, .ref z46, .ref z47, .ref z48, .int n49, .int n50, .int n51, .int n52, .int n53, .int n54, .ref z55, .ref z56, .int n57, .int n58, .ref z59, .ref z60, .ref z61, .int n62, .long n63])), (z48, .inl (γ.2.1 3, 4, .inl il))] s H locs := hw
  refine W.eq (g2 := F0 m 11 ls [.int 1]) rfl ?_
  refine lv_if_eq (tgt := 27) hx hb dX12_mark_11 (by decide) (fun h => absurd h (by decide)) (fun _ => ?_)
  refine lv_iload_n hx hb dX12_mark_14 rfl (lv_at hl 2 rfl) ?_
  refine lv_if_eq (tgt := 29) hx hb dX12_mark_15 (by decide) (fun h => absurd h (by decide)) (fun _ => ?_)
  refine lv_aload_n hx hb dX12_mark_18 rfl (lv_at hl 0 rfl) ?_
  refine fg_RX12_117 hC hw 0 rfl rfl dX12_mark_19 ?_
  refine lv_iload_n hx hb dX12_mark_22 rfl (lv_at hl 1 rfl) ?_
  refine k_zald hC hw 1 rfl (vp_in_nI hm (by decide)) dX12_mark_23 ?_
  refine lv_topi (fun x_110 ex_110 => ?_)
  obtain rfl : x_110 = il m9 := (show x_110 = il (nI m9 : Int32).toNatClampNeg from ex_110).trans (by rw [nI_clamp (by omega)])
  refine lv_if_ne (tgt := 29) hx hb dX12_mark_24 (by decide) (fun h => absurd hlb h) (fun _ => ?_)
  refine lv_iconst (v := 0) hx hb dX12_mark_27 (by decide) ?_
  exact k_zret hC hr hlocks rfl hw [0, 1] rfl rfl ⟨rfl, rfl⟩ (by decide) (by decide) dX12_mark_28

set_option maxHeartbeats 4000000 in
set_option maxRecDepth 100000 in
theorem c_mk_lo (γ : kΓ) (l : Launch) (z : Nat) (z2 : Nat) (z10 : Nat) (z11 : Nat) (z12 : Nat) (z13 : Nat) (z14 : Nat) (z15 : Nat) (z16 : Nat) (z17 : Nat) (z18 : Nat) (z19 : Nat) (z22 : Nat) (z23 : Nat) (z24 : Nat) (z25 : Nat) (z26 : Nat) (z27 : Nat) (z28 : Nat) (z29 : Nat) (z30 : Nat) (z31 : Nat) (z32 : Nat) (z33 : Nat) (z36 : Nat) (z37 : Nat) (z38 : Nat) (z39 : Nat) (z40 : Nat) (z41 : Nat) (z42 : Nat) (z43 : Nat) (z44 : Nat) (z45 : Nat) (z46 : Nat) (z47 : Nat) (z48 : Nat) (z55 : Nat) (z56 : Nat) (z59 : Nat) (z60 : Nat) (z61 : Nat) (n0 : Int32) (n1 : Int32) (n3 : Int32) (n4 : Int32) (n5 : Int32) (n6 : Int32) (n7 : Int64) (n8 : Int32) (n9 : Int32) (n20 : Int32) (n21 : Int32) (n34 : Int32) (n35 : Int64) (n49 : Int32) (n50 : Int32) (n51 : Int32) (n52 : Int32) (n53 : Int32) (n54 : Int32) (n57 : Int32) (n58 : Int32) (n62 : Int32) (n63 : Int64) (il : Nat → Int32) (th : Int32) (b : Int32) (h1 : th < 0) : kM γ l yX12_mark cX12_mark 5 ((some .boolean)) ({ frames := 1, cells := 0, slots := 0, locals := 22 } : Room) [.ref z, .int th, .int b] [(z, .inr (11, [.int n0, .int n1, .ref z2, .int n3, .int n4, .int n5, .int n6, .long n7, .int n8, .int n9, .ref z10, .ref z11, .ref z12, .ref z13, .ref z14, .ref z15, .ref z16, .ref z17, .ref z18, .ref z19, .int n20, .int n21, .ref z22, .ref z23, .ref z24, .ref z25, .ref z26, .ref z27, .ref z28, .ref z29, .ref z30, .ref z31, .ref z32, .ref z33, .int n34, .long n35, .ref z36, .ref z37, .ref z38, .ref z39, .ref z40, .ref z41, .ref z42, .ref z43, .ref z44, .ref z45, .ref z46, .ref z47, .ref z48, .int n49, .int n50, .int n51, .int n52, .int n53, .int n54, .ref z55, .ref z56, .int n57, .int n58, .ref z59, .ref z60, .ref z61, .int n62, .long n63])), (z48, .inl (γ.2.1 3, 4, .inl il))] (fun r w1 => r = some (.int 0) ∧ w1 = [(z, .inr (11, [.int 0, .int n1, .ref z2, .int n3, .int n4, .int n5, .int n6, .long n7, .int n8, .int n9, .ref z10, .ref z11, .ref z12, .ref z13, .ref z14, .ref z15, .ref z16, .ref z17, .ref z18, .ref z19, .int n20, .int n21, .ref z22, .ref z23, .ref z24, .ref z25, .ref z26, .ref z27, .ref z28, .ref z29, .ref z30, .ref z31, .ref z32, .ref z33, .int n34, .long n35, .ref z36, .ref z37, .ref z38, .ref z39, .ref z40, .ref z41, .ref z42, .ref z43, .ref z44, .ref z45, .ref z46, .ref z47, .ref z48, .int n49, .int n50, .int n51, .int n52, .int n53, .int n54, .ref z55, .ref z56, .int n57, .int n58, .ref z59, .ref z60, .ref z61, .int n62, .long n63])), (z48, .inl (γ.2.1 3, 4, .inl il))]) := by
  refine k_ofW (by decide) (Nat.le_of_ble_eq_true rfl) ?_
  intro p9 e s m below meth c A ls hC hr hlocks hname hw hl
  have hx := hC.1
  have hb := hC.2.1
  have hl : lv_has ls 5 [(0, .ref z), (1, .int th), (2, .int b)] := hl
  refine lv_aload_n hx hb dX12_mark_0 rfl (lv_at hl 0 rfl) ?_
  refine lv_iconst (v := 0) hx hb dX12_mark_1 (by decide) ?_
  refine fs_RX12_143 hC hw 0 rfl rfl rfl (Nat.le_of_ble_eq_true rfl) dX12_mark_2 (fun H locs hw => ?_)
  have hw : kW γ A [(z, .inr (11, [.int 0, .int n1, .ref z2, .int n3, .int n4, .int n5, .int n6, .long n7, .int n8, .int n9, .ref z10, .ref z11, .ref z12, .ref z13, .ref z14, .ref z15, .ref z16, .ref z17, .ref z18, .ref z19, .int n20, .int n21, .ref z22, .ref z23, .ref z24, .ref z25, .ref z26, .ref z27, .ref z28, .ref z29, .ref z30, .ref z31, .ref z32, .ref z33, .int n34, .long n35, .ref z36, .ref z37, .ref z38, .ref z39, .ref z40, .ref z41, .ref z42, .ref z43, .ref z44, .ref z45, .ref z46, .ref z47, .ref z48, .int n49, .int n50, .int n51, .int n52, .int n53, .int n54, .ref z55, .ref z56, .int n57, .int n58, .ref z59, .ref z60, .ref z61, .int n62, .long n63])), (z48, .inl (γ.2.1 3, 4, .inl il))] s H locs := hw
  refine lv_iload_n hx hb dX12_mark_5 rfl (lv_at hl 1 rfl) ?_
  refine lv_iconst (v := 0) hx hb dX12_mark_6 (by decide) ?_
  refine lv_iconst (v := 3) hx hb dX12_mark_7 (by decide) ?_
  refine k_S (wr := [(z, .inr (11, [.int 0, .int n1, .ref z2, .int n3, .int n4, .int n5, .int n6, .long n7, .int n8, .int n9, .ref z10, .ref z11, .ref z12, .ref z13, .ref z14, .ref z15, .ref z16, .ref z17, .ref z18, .ref z19, .int n20, .int n21, .ref z22, .ref z23, .ref z24, .ref z25, .ref z26, .ref z27, .ref z28, .ref z29, .ref z30, .ref z31, .ref z32, .ref z33, .int n34, .long n35, .ref z36, .ref z37, .ref z38, .ref z39, .ref z40, .ref z41, .ref z42, .ref z43, .ref z44, .ref z45, .ref z46, .ref z47, .ref z48, .int n49, .int n50, .int n51, .int n52, .int n53, .int n54, .ref z55, .ref z56, .int n57, .int n58, .ref z59, .ref z60, .ref z61, .int n62, .long n63])), (z48, .inl (γ.2.1 3, 4, .inl il))]) 3 gw_1468 gw_1469 gw_15 gw_1470 hd_X12_within hC hw (c_wi_l γ l th 0 3 h1) ⟨by decide, by decide⟩ ⟨by decide, by decide⟩ hl.1 rfl rfl (Nat.le_of_ble_eq_true rfl) [] [0, 1] rfl rfl rfl rfl (by decide) dX12_mark_8 (fun r w1 H locs hq hw => ?_)
  obtain ⟨rfl, rfl⟩ := hq
  have hw : kW γ A [(z, .inr (11, [.int 0, .int n1, .ref z2, .int n3, .int n4, .int n5, .int n6, .long n7, .int n8, .int n9, .ref z10, .ref z11, .ref z12, .ref z13, .ref z14, .ref z15, .ref z16, .ref z17, .ref z18, .ref z19, .int n20, .int n21, .ref z22, .ref z23, .ref z24, .ref z25, .ref z26, .ref z27, .ref z28, .ref z29, .ref z30, .ref z31, .ref z32, .ref z33, .int n34, .long n35, .ref z36, .ref z37, .ref z38, .ref z39, .ref z40, .ref z41, .ref z42, .ref z43, .ref z44, .ref z45, .ref z46, .ref z47, .ref z48, .int n49, .int n50, .int n51, .int n52, .int n53, .int n54, .ref z55, .ref z56, .int n57, .int n58, .ref z59, .ref z60, .ref z61, .int n62, .long n63])), (z48, .inl (γ.2.1 3, 4, .inl il))] s H locs := hw
  refine W.eq (g2 := F0 m 11 ls [.int 0]) rfl ?_
  refine lv_if_eq (tgt := 27) hx hb dX12_mark_11 (by decide) (fun _ => ?_) (fun h => absurd (by decide) h)
  refine lv_iconst (v := 0) hx hb dX12_mark_27 (by decide) ?_
  exact k_zret hC hr hlocks rfl hw [0, 1] rfl rfl ⟨rfl, rfl⟩ (by decide) (by decide) dX12_mark_28

set_option maxHeartbeats 4000000 in
set_option maxRecDepth 100000 in
theorem c_mk_hi (γ : kΓ) (l : Launch) (z : Nat) (z2 : Nat) (z10 : Nat) (z11 : Nat) (z12 : Nat) (z13 : Nat) (z14 : Nat) (z15 : Nat) (z16 : Nat) (z17 : Nat) (z18 : Nat) (z19 : Nat) (z22 : Nat) (z23 : Nat) (z24 : Nat) (z25 : Nat) (z26 : Nat) (z27 : Nat) (z28 : Nat) (z29 : Nat) (z30 : Nat) (z31 : Nat) (z32 : Nat) (z33 : Nat) (z36 : Nat) (z37 : Nat) (z38 : Nat) (z39 : Nat) (z40 : Nat) (z41 : Nat) (z42 : Nat) (z43 : Nat) (z44 : Nat) (z45 : Nat) (z46 : Nat) (z47 : Nat) (z48 : Nat) (z55 : Nat) (z56 : Nat) (z59 : Nat) (z60 : Nat) (z61 : Nat) (n0 : Int32) (n1 : Int32) (n3 : Int32) (n4 : Int32) (n5 : Int32) (n6 : Int32) (n7 : Int64) (n8 : Int32) (n9 : Int32) (n20 : Int32) (n21 : Int32) (n34 : Int32) (n35 : Int64) (n49 : Int32) (n50 : Int32) (n51 : Int32) (n52 : Int32) (n53 : Int32) (n54 : Int32) (n57 : Int32) (n58 : Int32) (n62 : Int32) (n63 : Int64) (il : Nat → Int32) (th : Int32) (b : Int32) (h1 : ¬ th < 0) (h2 : 3 < th) : kM γ l yX12_mark cX12_mark 5 ((some .boolean)) ({ frames := 1, cells := 0, slots := 0, locals := 22 } : Room) [.ref z, .int th, .int b] [(z, .inr (11, [.int n0, .int n1, .ref z2, .int n3, .int n4, .int n5, .int n6, .long n7, .int n8, .int n9, .ref z10, .ref z11, .ref z12, .ref z13, .ref z14, .ref z15, .ref z16, .ref z17, .ref z18, .ref z19, .int n20, .int n21, .ref z22, .ref z23, .ref z24, .ref z25, .ref z26, .ref z27, .ref z28, .ref z29, .ref z30, .ref z31, .ref z32, .ref z33, .int n34, .long n35, .ref z36, .ref z37, .ref z38, .ref z39, .ref z40, .ref z41, .ref z42, .ref z43, .ref z44, .ref z45, .ref z46, .ref z47, .ref z48, .int n49, .int n50, .int n51, .int n52, .int n53, .int n54, .ref z55, .ref z56, .int n57, .int n58, .ref z59, .ref z60, .ref z61, .int n62, .long n63])), (z48, .inl (γ.2.1 3, 4, .inl il))] (fun r w1 => r = some (.int 0) ∧ w1 = [(z, .inr (11, [.int 0, .int n1, .ref z2, .int n3, .int n4, .int n5, .int n6, .long n7, .int n8, .int n9, .ref z10, .ref z11, .ref z12, .ref z13, .ref z14, .ref z15, .ref z16, .ref z17, .ref z18, .ref z19, .int n20, .int n21, .ref z22, .ref z23, .ref z24, .ref z25, .ref z26, .ref z27, .ref z28, .ref z29, .ref z30, .ref z31, .ref z32, .ref z33, .int n34, .long n35, .ref z36, .ref z37, .ref z38, .ref z39, .ref z40, .ref z41, .ref z42, .ref z43, .ref z44, .ref z45, .ref z46, .ref z47, .ref z48, .int n49, .int n50, .int n51, .int n52, .int n53, .int n54, .ref z55, .ref z56, .int n57, .int n58, .ref z59, .ref z60, .ref z61, .int n62, .long n63])), (z48, .inl (γ.2.1 3, 4, .inl il))]) := by
  refine k_ofW (by decide) (Nat.le_of_ble_eq_true rfl) ?_
  intro p9 e s m below meth c A ls hC hr hlocks hname hw hl
  have hx := hC.1
  have hb := hC.2.1
  have hl : lv_has ls 5 [(0, .ref z), (1, .int th), (2, .int b)] := hl
  refine lv_aload_n hx hb dX12_mark_0 rfl (lv_at hl 0 rfl) ?_
  refine lv_iconst (v := 0) hx hb dX12_mark_1 (by decide) ?_
  refine fs_RX12_143 hC hw 0 rfl rfl rfl (Nat.le_of_ble_eq_true rfl) dX12_mark_2 (fun H locs hw => ?_)
  have hw : kW γ A [(z, .inr (11, [.int 0, .int n1, .ref z2, .int n3, .int n4, .int n5, .int n6, .long n7, .int n8, .int n9, .ref z10, .ref z11, .ref z12, .ref z13, .ref z14, .ref z15, .ref z16, .ref z17, .ref z18, .ref z19, .int n20, .int n21, .ref z22, .ref z23, .ref z24, .ref z25, .ref z26, .ref z27, .ref z28, .ref z29, .ref z30, .ref z31, .ref z32, .ref z33, .int n34, .long n35, .ref z36, .ref z37, .ref z38, .ref z39, .ref z40, .ref z41, .ref z42, .ref z43, .ref z44, .ref z45, .ref z46, .ref z47, .ref z48, .int n49, .int n50, .int n51, .int n52, .int n53, .int n54, .ref z55, .ref z56, .int n57, .int n58, .ref z59, .ref z60, .ref z61, .int n62, .long n63])), (z48, .inl (γ.2.1 3, 4, .inl il))] s H locs := hw
  refine lv_iload_n hx hb dX12_mark_5 rfl (lv_at hl 1 rfl) ?_
  refine lv_iconst (v := 0) hx hb dX12_mark_6 (by decide) ?_
  refine lv_iconst (v := 3) hx hb dX12_mark_7 (by decide) ?_
  refine k_S (wr := [(z, .inr (11, [.int 0, .int n1, .ref z2, .int n3, .int n4, .int n5, .int n6, .long n7, .int n8, .int n9, .ref z10, .ref z11, .ref z12, .ref z13, .ref z14, .ref z15, .ref z16, .ref z17, .ref z18, .ref z19, .int n20, .int n21, .ref z22, .ref z23, .ref z24, .ref z25, .ref z26, .ref z27, .ref z28, .ref z29, .ref z30, .ref z31, .ref z32, .ref z33, .int n34, .long n35, .ref z36, .ref z37, .ref z38, .ref z39, .ref z40, .ref z41, .ref z42, .ref z43, .ref z44, .ref z45, .ref z46, .ref z47, .ref z48, .int n49, .int n50, .int n51, .int n52, .int n53, .int n54, .ref z55, .ref z56, .int n57, .int n58, .ref z59, .ref z60, .ref z61, .int n62, .long n63])), (z48, .inl (γ.2.1 3, 4, .inl il))]) 3 gw_1468 gw_1469 gw_15 gw_1470 hd_X12_within hC hw (c_wi_h γ l th 0 3 h1 h2) ⟨by decide, by decide⟩ ⟨by decide, by decide⟩ hl.1 rfl rfl (Nat.le_of_ble_eq_true rfl) [] [0, 1] rfl rfl rfl rfl (by decide) dX12_mark_8 (fun r w1 H locs hq hw => ?_)
  obtain ⟨rfl, rfl⟩ := hq
  have hw : kW γ A [(z, .inr (11, [.int 0, .int n1, .ref z2, .int n3, .int n4, .int n5, .int n6, .long n7, .int n8, .int n9, .ref z10, .ref z11, .ref z12, .ref z13, .ref z14, .ref z15, .ref z16, .ref z17, .ref z18, .ref z19, .int n20, .int n21, .ref z22, .ref z23, .ref z24, .ref z25, .ref z26, .ref z27, .ref z28, .ref z29, .ref z30, .ref z31, .ref z32, .ref z33, .int n34, .long n35, .ref z36, .ref z37, .ref z38, .ref z39, .ref z40, .ref z41, .ref z42, .ref z43, .ref z44, .ref z45, .ref z46, .ref z47, .ref z48, .int n49, .int n50, .int n51, .int n52, .int n53, .int n54, .ref z55, .ref z56, .int n57, .int n58, .ref z59, .ref z60, .ref z61, .int n62, .long n63])), (z48, .inl (γ.2.1 3, 4, .inl il))] s H locs := hw
  refine W.eq (g2 := F0 m 11 ls [.int 0]) rfl ?_
  refine lv_if_eq (tgt := 27) hx hb dX12_mark_11 (by decide) (fun _ => ?_) (fun h => absurd (by decide) h)
  refine lv_iconst (v := 0) hx hb dX12_mark_27 (by decide) ?_
  exact k_zret hC hr hlocks rfl hw [0, 1] rfl rfl ⟨rfl, rfl⟩ (by decide) (by decide) dX12_mark_28


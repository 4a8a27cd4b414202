abbrev mRS := Int32 × Nat × Int32 × Int64 × Int32 × Nat
def mWz (γ : kΓ) (z : Nat) (z2 : Nat) (z10 : Nat) (z11 : Nat) (z12 : Nat) (z13 : Nat) (z14 : Nat) (z15 : Nat) (z16 : Nat) (z17 : Nat) (z18 : Nat) (z19 : Nat) (z22 : Nat) (z23 : Nat) (z24 : Nat) (z25 : Nat) (z26 : Nat) (z27 : Nat) (z28 : Nat) (z29 : Nat) (z30 : Nat) (z31 : Nat) (z32 : Nat) (z33 : Nat) (z36 : Nat) (z37 : Nat) (z38 : Nat) (z39 : Nat) (z40 : Nat) (z41 : Nat) (z42 : Nat) (z43 : Nat) (z44 : Nat) (z45 : Nat) (z46 : Nat) (z47 : Nat) (z48 : Nat) (z55 : Nat) (z56 : Nat) (z59 : Nat) (z60 : Nat) (z61 : Nat) (n0 : Int32) (n1 : Int32) (n49 : Int32) (n50 : Int32) (n51 : Int32) (n52 : Int32) (n53 : Int32) (n54 : Int32) (n57 : Int32) (n58 : Int32) (n62 : Int32) (n63 : Int64) (g : Nat → Int32) (n : Nat) (rs : mRS) : va_W := [(z, .inr (11, [.int n0, .int n1, .ref z2, .int (nI n), .int (nI (te g n (rs.2.1))), .int (nI (ts g n (rs.2.1))), .int (mk g n (rs.2.1)), .long (mw g n (rs.2.1)), .int (mt g n (rs.2.1)), .int (rs.1), .ref z10, .ref z11, .ref z12, .ref z13, .ref z14, .ref z15, .ref z16, .ref z17, .ref z18, .ref z19, .int (nI (rs.2.2.2.2.2)), .int (rs.2.2.2.2.1), .ref z22, .ref z23, .ref z24, .ref z25, .ref z26, .ref z27, .ref z28, .ref z29, .ref z30, .ref z31, .ref z32, .ref z33, .int (rs.2.2.1), .long (rs.2.2.2.1), .ref z36, .ref z37, .ref z38, .ref z39, .ref z40, .ref z41, .ref z42, .ref z43, .ref z44, .ref z45, .ref z46, .ref z47, .ref z48, .int n49, .int n50, .int n51, .int n52, .int n53, .int n54, .ref z55, .ref z56, .int n57, .int n58, .ref z59, .ref z60, .ref z61, .int n62, .long n63])), (z2, .inl (γ.2.1 0, 1000, .inl g))]
def mv (g : Nat → Int32) (n : Nat) (rs : mRS) : mRS := (rs.1, te g n rs.2.1, rs.2.2)
theorem c_mv (γ : kΓ) (l : Launch) (z : Nat) (z2 : Nat) (z10 : Nat) (z11 : Nat) (z12 : Nat) (z13 : Nat) (z14 : Nat) (z15 : Nat) (z16 : Nat) (z17 : Nat) (z18 : Nat) (z19 : Nat) (z22 : Nat) (z23 : Nat) (z24 : Nat) (z25 : Nat) (z26 : Nat) (z27 : Nat) (z28 : Nat) (z29 : Nat) (z30 : Nat) (z31 : Nat) (z32 : Nat) (z33 : Nat) (z36 : Nat) (z37 : Nat) (z38 : Nat) (z39 : Nat) (z40 : Nat) (z41 : Nat) (z42 : Nat) (z43 : Nat) (z44 : Nat) (z45 : Nat) (z46 : Nat) (z47 : Nat) (z48 : Nat) (z55 : Nat) (z56 : Nat) (z59 : Nat) (z60 : Nat) (z61 : Nat) (n0 : Int32) (n1 : Int32) (n49 : Int32) (n50 : Int32) (n51 : Int32) (n52 : Int32) (n53 : Int32) (n54 : Int32) (n57 : Int32) (n58 : Int32) (n62 : Int32) (n63 : Int64) (n : Nat) (g : Nat → Int32) (rs : mRS) (hn : n ≤ 1000) : kM γ l yX12_nextToken cX12_nextToken 2 none ({ frames := 1, cells := 0, slots := 0, locals := 40 } : Room) [.ref z] (mWz γ z z2 z10 z11 z12 z13 z14 z15 z16 z17 z18 z19 z22 z23 z24 z25 z26 z27 z28 z29 z30 z31 z32 z33 z36 z37 z38 z39 z40 z41 z42 z43 z44 z45 z46 z47 z48 z55 z56 z59 z60 z61 n0 n1 n49 n50 n51 n52 n53 n54 n57 n58 n62 n63 g n rs) (fun r w1 => r = none ∧ w1 = (mWz γ z z2 z10 z11 z12 z13 z14 z15 z16 z17 z18 z19 z22 z23 z24 z25 z26 z27 z28 z29 z30 z31 z32 z33 z36 z37 z38 z39 z40 z41 z42 z43 z44 z45 z46 z47 z48 z55 z56 z59 z60 z61 n0 n1 n49 n50 n51 n52 n53 n54 n57 n58 n62 n63 g n (mv g n rs))) :=
  c_X12_nextToken γ l z z2 z10 z11 z12 z13 z14 z15 z16 z17 z18 z19 z22 z23 z24 z25 z26 z27 z28 z29 z30 z31 z32 z33 z36 z37 z38 z39 z40 z41 z42 z43 z44 z45 z46 z47 z48 z55 z56 z59 z60 z61 n0 n1 rs.1 (nI rs.2.2.2.2.2) rs.2.2.2.2.1 rs.2.2.1 rs.2.2.2.1 n49 n50 n51 n52 n53 n54 n57 n58 n62 n63 n g (te g n rs.2.1) (nI (ts g n rs.2.1)) (mk g n rs.2.1) (mw g n rs.2.1) (mt g n rs.2.1) hn te_le
theorem mk3_lt {g : Nat → Int32} {n p : Nat} (h : mk g n p = 3) : ts g n p < n := by
  rcases Nat.lt_or_ge (ts g n p) n with h9 | h9
  · exact h9
  · unfold mk mk1 at h
    rw [if_neg (by omega)] at h
    exact absurd h (by decide)
theorem mk_lt {g : Nat → Int32} {n p : Nat} (h : ¬ mk g n p = 0) : ts g n p < n := by
  rcases Nat.lt_or_ge (ts g n p) n with h9 | h9
  · exact h9
  · unfold mk mk1 at h
    rw [if_neg (by omega)] at h
    exact absurd rfl h
theorem zb {v : Int32} (h : v = 0 ∨ v = 1) : narrow .boolean (.int v) = .int v := by
  rcases h with rfl | rfl <;> rfl
theorem dX12_fails_0 : decode cX12_fails 0 = .ok (.aload_n 0, 1) := by decide +kernel
theorem dX12_fails_1 : decode cX12_fails 1 = .ok (.iload_n 1, 1) := by decide +kernel
theorem dX12_fails_2 : decode cX12_fails 2 = .ok (.bipush 16, 2) := by decide +kernel
theorem dX12_fails_4 : decode cX12_fails 4 = .ok (.aload_n 0, 1) := by decide +kernel
theorem dX12_fails_5 : decode cX12_fails 5 = .ok (.getfield 157, 3) := by decide +kernel
theorem dX12_fails_8 : decode cX12_fails 8 = .ok (.imul, 1) := by decide +kernel
theorem dX12_fails_9 : decode cX12_fails 9 = .ok (.iadd, 1) := by decide +kernel
theorem dX12_fails_10 : decode cX12_fails 10 = .ok (.putfield 178, 3) := by decide +kernel
theorem dX12_fails_13 : decode cX12_fails 13 = .ok (.iconst 0, 1) := by decide +kernel
theorem dX12_fails_14 : decode cX12_fails 14 = .ok (.ireturn, 1) := by decide +kernel
theorem dX12_isWord_0 : decode cX12_isWord 0 = .ok (.aload_n 0, 1) := by decide +kernel
theorem dX12_isWord_1 : decode cX12_isWord 1 = .ok (.getfield 167, 3) := by decide +kernel
theorem dX12_isWord_4 : decode cX12_isWord 4 = .ok (.iconst 1, 1) := by decide +kernel
theorem dX12_isWord_5 : decode cX12_isWord 5 = .ok (.if_icmp .ne 16, 3) := by decide +kernel
theorem dX12_isWord_8 : decode cX12_isWord 8 = .ok (.aload_n 0, 1) := by decide +kernel
theorem dX12_isWord_9 : decode cX12_isWord 9 = .ok (.getfield 160, 3) := by decide +kernel
theorem dX12_isWord_12 : decode cX12_isWord 12 = .ok (.lload_n 1, 1) := by decide +kernel
theorem dX12_isWord_13 : decode cX12_isWord 13 = .ok (.lcmp, 1) := by decide +kernel
theorem dX12_isWord_14 : decode cX12_isWord 14 = .ok (.ifCond .ne 7, 3) := by decide +kernel
theorem dX12_isWord_17 : decode cX12_isWord 17 = .ok (.iconst 1, 1) := by decide +kernel
theorem dX12_isWord_18 : decode cX12_isWord 18 = .ok (.goto 4, 3) := by decide +kernel
theorem dX12_isWord_21 : decode cX12_isWord 21 = .ok (.iconst 0, 1) := by decide +kernel
theorem dX12_isWord_22 : decode cX12_isWord 22 = .ok (.ireturn, 1) := by decide +kernel
theorem dX12_isSign_0 : decode cX12_isSign 0 = .ok (.aload_n 0, 1) := by decide +kernel
theorem dX12_isSign_1 : decode cX12_isSign 1 = .ok (.getfield 167, 3) := by decide +kernel
theorem dX12_isSign_4 : decode cX12_isSign 4 = .ok (.iconst 3, 1) := by decide +kernel
theorem dX12_isSign_5 : decode cX12_isSign 5 = .ok (.if_icmp .ne 20, 3) := by decide +kernel
theorem dX12_isSign_8 : decode cX12_isSign 8 = .ok (.aload_n 0, 1) := by decide +kernel
theorem dX12_isSign_9 : decode cX12_isSign 9 = .ok (.getfield 7, 3) := by decide +kernel
theorem dX12_isSign_12 : decode cX12_isSign 12 = .ok (.aload_n 0, 1) := by decide +kernel
theorem dX12_isSign_13 : decode cX12_isSign 13 = .ok (.getfield 157, 3) := by decide +kernel
theorem dX12_isSign_16 : decode cX12_isSign 16 = .ok (.iaload, 1) := by decide +kernel
theorem dX12_isSign_17 : decode cX12_isSign 17 = .ok (.iload_n 1, 1) := by decide +kernel
theorem dX12_isSign_18 : decode cX12_isSign 18 = .ok (.if_icmp .ne 7, 3) := by decide +kernel
theorem dX12_isSign_21 : decode cX12_isSign 21 = .ok (.iconst 1, 1) := by decide +kernel
theorem dX12_isSign_22 : decode cX12_isSign 22 = .ok (.goto 4, 3) := by decide +kernel
theorem dX12_isSign_25 : decode cX12_isSign 25 = .ok (.iconst 0, 1) := by decide +kernel
theorem dX12_isSign_26 : decode cX12_isSign 26 = .ok (.ireturn, 1) := by decide +kernel
theorem dX12_fact_0 : decode cX12_fact 0 = .ok (.aload_n 0, 1) := by decide +kernel
theorem dX12_fact_1 : decode cX12_fact 1 = .ok (.getfield 167, 3) := by decide +kernel
theorem dX12_fact_4 : decode cX12_fact 4 = .ok (.iconst 1, 1) := by decide +kernel
theorem dX12_fact_5 : decode cX12_fact 5 = .ok (.if_icmp .eq 5, 3) := by decide +kernel
theorem dX12_fact_8 : decode cX12_fact 8 = .ok (.iconst 0, 1) := by decide +kernel
theorem dX12_fact_9 : decode cX12_fact 9 = .ok (.ireturn, 1) := by decide +kernel
theorem dX12_fact_10 : decode cX12_fact 10 = .ok (.aload_n 0, 1) := by decide +kernel
theorem dX12_fact_11 : decode cX12_fact 11 = .ok (.getfield 160, 3) := by decide +kernel
theorem dX12_fact_14 : decode cX12_fact 14 = .ok (.ldc2_w 184, 3) := by decide +kernel
theorem dX12_fact_17 : decode cX12_fact 17 = .ok (.lcmp, 1) := by decide +kernel
theorem dX12_fact_18 : decode cX12_fact 18 = .ok (.ifCond .ne 5, 3) := by decide +kernel
theorem dX12_fact_21 : decode cX12_fact 21 = .ok (.iconst 1, 1) := by decide +kernel
theorem dX12_fact_22 : decode cX12_fact 22 = .ok (.ireturn, 1) := by decide +kernel
theorem dX12_fact_23 : decode cX12_fact 23 = .ok (.aload_n 0, 1) := by decide +kernel
theorem dX12_fact_24 : decode cX12_fact 24 = .ok (.getfield 160, 3) := by decide +kernel
theorem dX12_fact_27 : decode cX12_fact 27 = .ok (.ldc2_w 186, 3) := by decide +kernel
theorem dX12_fact_30 : decode cX12_fact 30 = .ok (.lcmp, 1) := by decide +kernel
theorem dX12_fact_31 : decode cX12_fact 31 = .ok (.ifCond .ne 5, 3) := by decide +kernel
theorem dX12_fact_34 : decode cX12_fact 34 = .ok (.iconst 2, 1) := by decide +kernel
theorem dX12_fact_35 : decode cX12_fact 35 = .ok (.ireturn, 1) := by decide +kernel
theorem dX12_fact_36 : decode cX12_fact 36 = .ok (.aload_n 0, 1) := by decide +kernel
theorem dX12_fact_37 : decode cX12_fact 37 = .ok (.getfield 160, 3) := by decide +kernel
theorem dX12_fact_40 : decode cX12_fact 40 = .ok (.ldc2_w 188, 3) := by decide +kernel
theorem dX12_fact_43 : decode cX12_fact 43 = .ok (.lcmp, 1) := by decide +kernel
theorem dX12_fact_44 : decode cX12_fact 44 = .ok (.ifCond .ne 7, 3) := by decide +kernel
theorem dX12_fact_47 : decode cX12_fact 47 = .ok (.iconst 3, 1) := by decide +kernel
theorem dX12_fact_48 : decode cX12_fact 48 = .ok (.goto 19, 3) := by decide +kernel
theorem dX12_fact_51 : decode cX12_fact 51 = .ok (.aload_n 0, 1) := by decide +kernel
theorem dX12_fact_52 : decode cX12_fact 52 = .ok (.getfield 160, 3) := by decide +kernel
theorem dX12_fact_55 : decode cX12_fact 55 = .ok (.ldc2_w 190, 3) := by decide +kernel
theorem dX12_fact_58 : decode cX12_fact 58 = .ok (.lcmp, 1) := by decide +kernel
theorem dX12_fact_59 : decode cX12_fact 59 = .ok (.ifCond .ne 7, 3) := by decide +kernel
theorem dX12_fact_62 : decode cX12_fact 62 = .ok (.iconst 4, 1) := by decide +kernel
theorem dX12_fact_63 : decode cX12_fact 63 = .ok (.goto 4, 3) := by decide +kernel
theorem dX12_fact_66 : decode cX12_fact 66 = .ok (.iconst 0, 1) := by decide +kernel
theorem dX12_fact_67 : decode cX12_fact 67 = .ok (.ireturn, 1) := by decide +kernel
theorem dX12_isKept_0 : decode cX12_isKept 0 = .ok (.aload_n 0, 1) := by decide +kernel
theorem dX12_isKept_1 : decode cX12_isKept 1 = .ok (.getfield 167, 3) := by decide +kernel
theorem dX12_isKept_4 : decode cX12_isKept 4 = .ok (.iconst 1, 1) := by decide +kernel
theorem dX12_isKept_5 : decode cX12_isKept 5 = .ok (.if_icmp .eq 5, 3) := by decide +kernel
theorem dX12_isKept_8 : decode cX12_isKept 8 = .ok (.iconst 1, 1) := by decide +kernel
theorem dX12_isKept_9 : decode cX12_isKept 9 = .ok (.ireturn, 1) := by decide +kernel
theorem dX12_isKept_10 : decode cX12_isKept 10 = .ok (.aload_n 0, 1) := by decide +kernel
theorem dX12_isKept_11 : decode cX12_isKept 11 = .ok (.getfield 160, 3) := by decide +kernel
theorem dX12_isKept_14 : decode cX12_isKept 14 = .ok (.ldc2_w 228, 3) := by decide +kernel
theorem dX12_isKept_17 : decode cX12_isKept 17 = .ok (.lcmp, 1) := by decide +kernel
theorem dX12_isKept_18 : decode cX12_isKept 18 = .ok (.ifCond .eq 212, 3) := by decide +kernel
theorem dX12_isKept_21 : decode cX12_isKept 21 = .ok (.aload_n 0, 1) := by decide +kernel
theorem dX12_isKept_22 : decode cX12_isKept 22 = .ok (.getfield 160, 3) := by decide +kernel
theorem dX12_isKept_25 : decode cX12_isKept 25 = .ok (.ldc2_w 230, 3) := by decide +kernel
theorem dX12_isKept_28 : decode cX12_isKept 28 = .ok (.lcmp, 1) := by decide +kernel
theorem dX12_isKept_29 : decode cX12_isKept 29 = .ok (.ifCond .eq 201, 3) := by decide +kernel
theorem dX12_isKept_32 : decode cX12_isKept 32 = .ok (.aload_n 0, 1) := by decide +kernel
theorem dX12_isKept_33 : decode cX12_isKept 33 = .ok (.getfield 160, 3) := by decide +kernel
theorem dX12_isKept_36 : decode cX12_isKept 36 = .ok (.ldc2_w 232, 3) := by decide +kernel
theorem dX12_isKept_39 : decode cX12_isKept 39 = .ok (.lcmp, 1) := by decide +kernel
theorem dX12_isKept_40 : decode cX12_isKept 40 = .ok (.ifCond .eq 190, 3) := by decide +kernel
theorem dX12_isKept_43 : decode cX12_isKept 43 = .ok (.aload_n 0, 1) := by decide +kernel
theorem dX12_isKept_44 : decode cX12_isKept 44 = .ok (.getfield 160, 3) := by decide +kernel
theorem dX12_isKept_47 : decode cX12_isKept 47 = .ok (.ldc2_w 234, 3) := by decide +kernel
theorem dX12_isKept_50 : decode cX12_isKept 50 = .ok (.lcmp, 1) := by decide +kernel
theorem dX12_isKept_51 : decode cX12_isKept 51 = .ok (.ifCond .eq 179, 3) := by decide +kernel
theorem dX12_isKept_54 : decode cX12_isKept 54 = .ok (.aload_n 0, 1) := by decide +kernel
theorem dX12_isKept_55 : decode cX12_isKept 55 = .ok (.getfield 160, 3) := by decide +kernel
theorem dX12_isKept_58 : decode cX12_isKept 58 = .ok (.ldc2_w 236, 3) := by decide +kernel
theorem dX12_isKept_61 : decode cX12_isKept 61 = .ok (.lcmp, 1) := by decide +kernel
theorem dX12_isKept_62 : decode cX12_isKept 62 = .ok (.ifCond .eq 168, 3) := by decide +kernel
theorem dX12_isKept_65 : decode cX12_isKept 65 = .ok (.aload_n 0, 1) := by decide +kernel
theorem dX12_isKept_66 : decode cX12_isKept 66 = .ok (.getfield 160, 3) := by decide +kernel
theorem dX12_isKept_69 : decode cX12_isKept 69 = .ok (.ldc2_w 238, 3) := by decide +kernel
theorem dX12_isKept_72 : decode cX12_isKept 72 = .ok (.lcmp, 1) := by decide +kernel
theorem dX12_isKept_73 : decode cX12_isKept 73 = .ok (.ifCond .eq 157, 3) := by decide +kernel
theorem dX12_isKept_76 : decode cX12_isKept 76 = .ok (.aload_n 0, 1) := by decide +kernel
theorem dX12_isKept_77 : decode cX12_isKept 77 = .ok (.getfield 160, 3) := by decide +kernel
theorem dX12_isKept_80 : decode cX12_isKept 80 = .ok (.ldc2_w 240, 3) := by decide +kernel
theorem dX12_isKept_83 : decode cX12_isKept 83 = .ok (.lcmp, 1) := by decide +kernel
theorem dX12_isKept_84 : decode cX12_isKept 84 = .ok (.ifCond .eq 146, 3) := by decide +kernel
theorem dX12_isKept_87 : decode cX12_isKept 87 = .ok (.aload_n 0, 1) := by decide +kernel
theorem dX12_isKept_88 : decode cX12_isKept 88 = .ok (.getfield 160, 3) := by decide +kernel
theorem dX12_isKept_91 : decode cX12_isKept 91 = .ok (.ldc2_w 242, 3) := by decide +kernel
theorem dX12_isKept_94 : decode cX12_isKept 94 = .ok (.lcmp, 1) := by decide +kernel
theorem dX12_isKept_95 : decode cX12_isKept 95 = .ok (.ifCond .eq 135, 3) := by decide +kernel
theorem dX12_isKept_98 : decode cX12_isKept 98 = .ok (.aload_n 0, 1) := by decide +kernel
theorem dX12_isKept_99 : decode cX12_isKept 99 = .ok (.getfield 160, 3) := by decide +kernel
theorem dX12_isKept_102 : decode cX12_isKept 102 = .ok (.ldc2_w 244, 3) := by decide +kernel
theorem dX12_isKept_105 : decode cX12_isKept 105 = .ok (.lcmp, 1) := by decide +kernel
theorem dX12_isKept_106 : decode cX12_isKept 106 = .ok (.ifCond .eq 124, 3) := by decide +kernel
theorem dX12_isKept_109 : decode cX12_isKept 109 = .ok (.aload_n 0, 1) := by decide +kernel
theorem dX12_isKept_110 : decode cX12_isKept 110 = .ok (.getfield 160, 3) := by decide +kernel
theorem dX12_isKept_113 : decode cX12_isKept 113 = .ok (.ldc2_w 246, 3) := by decide +kernel
theorem dX12_isKept_116 : decode cX12_isKept 116 = .ok (.lcmp, 1) := by decide +kernel
theorem dX12_isKept_117 : decode cX12_isKept 117 = .ok (.ifCond .eq 113, 3) := by decide +kernel
theorem dX12_isKept_120 : decode cX12_isKept 120 = .ok (.aload_n 0, 1) := by decide +kernel
theorem dX12_isKept_121 : decode cX12_isKept 121 = .ok (.getfield 160, 3) := by decide +kernel
theorem dX12_isKept_124 : decode cX12_isKept 124 = .ok (.ldc2_w 248, 3) := by decide +kernel
theorem dX12_isKept_127 : decode cX12_isKept 127 = .ok (.lcmp, 1) := by decide +kernel
theorem dX12_isKept_128 : decode cX12_isKept 128 = .ok (.ifCond .eq 102, 3) := by decide +kernel
theorem dX12_isKept_131 : decode cX12_isKept 131 = .ok (.aload_n 0, 1) := by decide +kernel
theorem dX12_isKept_132 : decode cX12_isKept 132 = .ok (.getfield 160, 3) := by decide +kernel
theorem dX12_isKept_135 : decode cX12_isKept 135 = .ok (.ldc2_w 250, 3) := by decide +kernel
theorem dX12_isKept_138 : decode cX12_isKept 138 = .ok (.lcmp, 1) := by decide +kernel
theorem dX12_isKept_139 : decode cX12_isKept 139 = .ok (.ifCond .eq 91, 3) := by decide +kernel
theorem dX12_isKept_142 : decode cX12_isKept 142 = .ok (.aload_n 0, 1) := by decide +kernel
theorem dX12_isKept_143 : decode cX12_isKept 143 = .ok (.getfield 160, 3) := by decide +kernel
theorem dX12_isKept_146 : decode cX12_isKept 146 = .ok (.ldc2_w 252, 3) := by decide +kernel
theorem dX12_isKept_149 : decode cX12_isKept 149 = .ok (.lcmp, 1) := by decide +kernel
theorem dX12_isKept_150 : decode cX12_isKept 150 = .ok (.ifCond .eq 80, 3) := by decide +kernel
theorem dX12_isKept_153 : decode cX12_isKept 153 = .ok (.aload_n 0, 1) := by decide +kernel
theorem dX12_isKept_154 : decode cX12_isKept 154 = .ok (.getfield 160, 3) := by decide +kernel
theorem dX12_isKept_157 : decode cX12_isKept 157 = .ok (.ldc2_w 254, 3) := by decide +kernel
theorem dX12_isKept_160 : decode cX12_isKept 160 = .ok (.lcmp, 1) := by decide +kernel
theorem dX12_isKept_161 : decode cX12_isKept 161 = .ok (.ifCond .eq 69, 3) := by decide +kernel
theorem dX12_isKept_164 : decode cX12_isKept 164 = .ok (.aload_n 0, 1) := by decide +kernel
theorem dX12_isKept_165 : decode cX12_isKept 165 = .ok (.getfield 160, 3) := by decide +kernel
theorem dX12_isKept_168 : decode cX12_isKept 168 = .ok (.ldc2_w 256, 3) := by decide +kernel
theorem dX12_isKept_171 : decode cX12_isKept 171 = .ok (.lcmp, 1) := by decide +kernel
theorem dX12_isKept_172 : decode cX12_isKept 172 = .ok (.ifCond .eq 58, 3) := by decide +kernel
theorem dX12_isKept_175 : decode cX12_isKept 175 = .ok (.aload_n 0, 1) := by decide +kernel
theorem dX12_isKept_176 : decode cX12_isKept 176 = .ok (.getfield 160, 3) := by decide +kernel
theorem dX12_isKept_179 : decode cX12_isKept 179 = .ok (.ldc2_w 258, 3) := by decide +kernel
theorem dX12_isKept_182 : decode cX12_isKept 182 = .ok (.lcmp, 1) := by decide +kernel
theorem dX12_isKept_183 : decode cX12_isKept 183 = .ok (.ifCond .eq 47, 3) := by decide +kernel
theorem dX12_isKept_186 : decode cX12_isKept 186 = .ok (.aload_n 0, 1) := by decide +kernel
theorem dX12_isKept_187 : decode cX12_isKept 187 = .ok (.getfield 160, 3) := by decide +kernel
theorem dX12_isKept_190 : decode cX12_isKept 190 = .ok (.ldc2_w 260, 3) := by decide +kernel
theorem dX12_isKept_193 : decode cX12_isKept 193 = .ok (.lcmp, 1) := by decide +kernel
theorem dX12_isKept_194 : decode cX12_isKept 194 = .ok (.ifCond .eq 36, 3) := by decide +kernel
theorem dX12_isKept_197 : decode cX12_isKept 197 = .ok (.aload_n 0, 1) := by decide +kernel
theorem dX12_isKept_198 : decode cX12_isKept 198 = .ok (.getfield 160, 3) := by decide +kernel
theorem dX12_isKept_201 : decode cX12_isKept 201 = .ok (.ldc2_w 196, 3) := by decide +kernel
theorem dX12_isKept_204 : decode cX12_isKept 204 = .ok (.lcmp, 1) := by decide +kernel
theorem dX12_isKept_205 : decode cX12_isKept 205 = .ok (.ifCond .eq 25, 3) := by decide +kernel
theorem dX12_isKept_208 : decode cX12_isKept 208 = .ok (.aload_n 0, 1) := by decide +kernel
theorem dX12_isKept_209 : decode cX12_isKept 209 = .ok (.getfield 160, 3) := by decide +kernel
theorem dX12_isKept_212 : decode cX12_isKept 212 = .ok (.ldc2_w 215, 3) := by decide +kernel
theorem dX12_isKept_215 : decode cX12_isKept 215 = .ok (.lcmp, 1) := by decide +kernel
theorem dX12_isKept_216 : decode cX12_isKept 216 = .ok (.ifCond .eq 14, 3) := by decide +kernel
theorem dX12_isKept_219 : decode cX12_isKept 219 = .ok (.aload_n 0, 1) := by decide +kernel
theorem dX12_isKept_220 : decode cX12_isKept 220 = .ok (.getfield 160, 3) := by decide +kernel
theorem dX12_isKept_223 : decode cX12_isKept 223 = .ok (.ldc2_w 217, 3) := by decide +kernel
theorem dX12_isKept_226 : decode cX12_isKept 226 = .ok (.lcmp, 1) := by decide +kernel
theorem dX12_isKept_227 : decode cX12_isKept 227 = .ok (.ifCond .ne 7, 3) := by decide +kernel
theorem dX12_isKept_230 : decode cX12_isKept 230 = .ok (.iconst 1, 1) := by decide +kernel
theorem dX12_isKept_231 : decode cX12_isKept 231 = .ok (.goto 4, 3) := by decide +kernel
theorem dX12_isKept_234 : decode cX12_isKept 234 = .ok (.iconst 0, 1) := by decide +kernel
theorem dX12_isKept_235 : decode cX12_isKept 235 = .ok (.ireturn, 1) := by decide +kernel
theorem dX12_within_0 : decode cX12_within 0 = .ok (.iload_n 0, 1) := by decide +kernel
theorem dX12_within_1 : decode cX12_within 1 = .ok (.iload_n 1, 1) := by decide +kernel
theorem dX12_within_2 : decode cX12_within 2 = .ok (.if_icmp .lt 12, 3) := by decide +kernel
theorem dX12_within_5 : decode cX12_within 5 = .ok (.iload_n 0, 1) := by decide +kernel
theorem dX12_within_6 : decode cX12_within 6 = .ok (.iload_n 2, 1) := by decide +kernel
theorem dX12_within_7 : decode cX12_within 7 = .ok (.if_icmp .gt 7, 3) := by decide +kernel
theorem dX12_within_10 : decode cX12_within 10 = .ok (.iconst 1, 1) := by decide +kernel
theorem dX12_within_11 : decode cX12_within 11 = .ok (.goto 4, 3) := by decide +kernel
theorem dX12_within_14 : decode cX12_within 14 = .ok (.iconst 0, 1) := by decide +kernel
theorem dX12_within_15 : decode cX12_within 15 = .ok (.ireturn, 1) := by decide +kernel
theorem dX12_needsNumber_0 : decode cX12_needsNumber 0 = .ok (.aload_n 0, 1) := by decide +kernel
theorem dX12_needsNumber_1 : decode cX12_needsNumber 1 = .ok (.getfield 167, 3) := by decide +kernel
theorem dX12_needsNumber_4 : decode cX12_needsNumber 4 = .ok (.iconst 2, 1) := by decide +kernel
theorem dX12_needsNumber_5 : decode cX12_needsNumber 5 = .ok (.if_icmp .eq 9, 3) := by decide +kernel
theorem dX12_needsNumber_8 : decode cX12_needsNumber 8 = .ok (.aload_n 0, 1) := by decide +kernel
theorem dX12_needsNumber_9 : decode cX12_needsNumber 9 = .ok (.iconst 1, 1) := by decide +kernel
theorem dX12_needsNumber_10 : decode cX12_needsNumber 10 = .ok (.invokevirtual 206, 3) := by decide +kernel
theorem dX12_needsNumber_13 : decode cX12_needsNumber 13 = .ok (.ireturn, 1) := by decide +kernel
theorem dX12_needsNumber_14 : decode cX12_needsNumber 14 = .ok (.aload_n 0, 1) := by decide +kernel
theorem dX12_needsNumber_15 : decode cX12_needsNumber 15 = .ok (.getfield 164, 3) := by decide +kernel
theorem dX12_needsNumber_18 : decode cX12_needsNumber 18 = .ok (.iload_n 1, 1) := by decide +kernel
theorem dX12_needsNumber_19 : decode cX12_needsNumber 19 = .ok (.iload_n 2, 1) := by decide +kernel
theorem dX12_needsNumber_20 : decode cX12_needsNumber 20 = .ok (.invokestatic 262, 3) := by decide +kernel
theorem dX12_needsNumber_23 : decode cX12_needsNumber 23 = .ok (.ifCond .ne 9, 3) := by decide +kernel
theorem dX12_needsNumber_26 : decode cX12_needsNumber 26 = .ok (.aload_n 0, 1) := by decide +kernel
theorem dX12_needsNumber_27 : decode cX12_needsNumber 27 = .ok (.iconst 4, 1) := by decide +kernel
theorem dX12_needsNumber_28 : decode cX12_needsNumber 28 = .ok (.invokevirtual 206, 3) := by decide +kernel
theorem dX12_needsNumber_31 : decode cX12_needsNumber 31 = .ok (.ireturn, 1) := by decide +kernel
theorem dX12_needsNumber_32 : decode cX12_needsNumber 32 = .ok (.aload_n 0, 1) := by decide +kernel
theorem dX12_needsNumber_33 : decode cX12_needsNumber 33 = .ok (.aload_n 0, 1) := by decide +kernel
theorem dX12_needsNumber_34 : decode cX12_needsNumber 34 = .ok (.getfield 164, 3) := by decide +kernel
theorem dX12_needsNumber_37 : decode cX12_needsNumber 37 = .ok (.putfield 266, 3) := by decide +kernel
theorem dX12_needsNumber_40 : decode cX12_needsNumber 40 = .ok (.aload_n 0, 1) := by decide +kernel
theorem dX12_needsNumber_41 : decode cX12_needsNumber 41 = .ok (.invokevirtual 212, 3) := by decide +kernel
theorem dX12_needsNumber_44 : decode cX12_needsNumber 44 = .ok (.iconst 1, 1) := by decide +kernel
theorem dX12_needsNumber_45 : decode cX12_needsNumber 45 = .ok (.ireturn, 1) := by decide +kernel
theorem dX12_needsBoth_0 : decode cX12_needsBoth 0 = .ok (.aload_n 0, 1) := by decide +kernel
theorem dX12_needsBoth_1 : decode cX12_needsBoth 1 = .ok (.lload_n 1, 1) := by decide +kernel
theorem dX12_needsBoth_2 : decode cX12_needsBoth 2 = .ok (.invokevirtual 198, 3) := by decide +kernel
theorem dX12_needsBoth_5 : decode cX12_needsBoth 5 = .ok (.ifCond .ne 9, 3) := by decide +kernel
theorem dX12_needsBoth_8 : decode cX12_needsBoth 8 = .ok (.aload_n 0, 1) := by decide +kernel
theorem dX12_needsBoth_9 : decode cX12_needsBoth 9 = .ok (.iconst 1, 1) := by decide +kernel
theorem dX12_needsBoth_10 : decode cX12_needsBoth 10 = .ok (.invokevirtual 206, 3) := by decide +kernel
theorem dX12_needsBoth_13 : decode cX12_needsBoth 13 = .ok (.ireturn, 1) := by decide +kernel
theorem dX12_needsBoth_14 : decode cX12_needsBoth 14 = .ok (.aload_n 0, 1) := by decide +kernel
theorem dX12_needsBoth_15 : decode cX12_needsBoth 15 = .ok (.invokevirtual 212, 3) := by decide +kernel
theorem dX12_needsBoth_18 : decode cX12_needsBoth 18 = .ok (.aload_n 0, 1) := by decide +kernel
theorem dX12_needsBoth_19 : decode cX12_needsBoth 19 = .ok (.iload_n 3, 1) := by decide +kernel
theorem dX12_needsBoth_20 : decode cX12_needsBoth 20 = .ok (.iload 4, 2) := by decide +kernel
theorem dX12_needsBoth_22 : decode cX12_needsBoth 22 = .ok (.invokevirtual 269, 3) := by decide +kernel
theorem dX12_needsBoth_25 : decode cX12_needsBoth 25 = .ok (.ireturn, 1) := by decide +kernel
theorem dX12_closes_0 : decode cX12_closes 0 = .ok (.aload_n 0, 1) := by decide +kernel
theorem dX12_closes_1 : decode cX12_closes 1 = .ok (.bipush 59, 2) := by decide +kernel
theorem dX12_closes_3 : decode cX12_closes 3 = .ok (.invokevirtual 202, 3) := by decide +kernel
theorem dX12_closes_6 : decode cX12_closes 6 = .ok (.ifCond .ne 9, 3) := by decide +kernel
theorem dX12_closes_9 : decode cX12_closes 9 = .ok (.aload_n 0, 1) := by decide +kernel
theorem dX12_closes_10 : decode cX12_closes 10 = .ok (.iconst 1, 1) := by decide +kernel
theorem dX12_closes_11 : decode cX12_closes 11 = .ok (.invokevirtual 206, 3) := by decide +kernel
theorem dX12_closes_14 : decode cX12_closes 14 = .ok (.ireturn, 1) := by decide +kernel
theorem dX12_closes_15 : decode cX12_closes 15 = .ok (.aload_n 0, 1) := by decide +kernel
theorem dX12_closes_16 : decode cX12_closes 16 = .ok (.invokevirtual 212, 3) := by decide +kernel
theorem dX12_closes_19 : decode cX12_closes 19 = .ok (.iconst 1, 1) := by decide +kernel
theorem dX12_closes_20 : decode cX12_closes 20 = .ok (.ireturn, 1) := by decide +kernel
def F_m_fails (g : Nat → Int32) (n : Nat) (rs : mRS) (k : Int32) : mRS :=
  ((k + (16 * (nI (ts g n (rs.2.1))))), (rs.2.1), (rs.2.2.1), (rs.2.2.2.1), (rs.2.2.2.2.1), (rs.2.2.2.2.2))
set_option maxHeartbeats 4000000 in
set_option maxRecDepth 100000 in
theorem c_m_fails (γ : kΓ) (l : Launch) (z : Nat) (z2 : Nat) (z10 : Nat) (z11 : Nat) (z12 : Nat) (z13 : Nat) (z14 : Nat) (z15 : Nat) (z16 : Nat) (z17 : Nat) (z18 : Nat) (z19 : Nat) (z22 : Nat) (z23 : Nat) (z24 : Nat) (z25 : Nat) (z26 : Nat) (z27 : Nat) (z28 : Nat) (z29 : Nat) (z30 : Nat) (z31 : Nat) (z32 : Nat) (z33 : Nat) (z36 : Nat) (z37 : Nat) (z38 : Nat) (z39 : Nat) (z40 : Nat) (z41 : Nat) (z42 : Nat) (z43 : Nat) (z44 : Nat) (z45 : Nat) (z46 : Nat) (z47 : Nat) (z48 : Nat) (z55 : Nat) (z56 : Nat) (z59 : Nat) (z60 : Nat) (z61 : Nat) (n0 : Int32) (n1 : Int32) (n49 : Int32) (n50 : Int32) (n51 : Int32) (n52 : Int32) (n53 : Int32) (n54 : Int32) (n57 : Int32) (n58 : Int32) (n62 : Int32) (n63 : Int64) (n : Nat) (g : Nat → Int32) (rs : mRS) (k : Int32) (hn : n ≤ 1000) : kM γ l yX12_fails cX12_fails 2 ((some .boolean)) ({ frames := 0, cells := 0, slots := 0, locals := 0 } : Room) [.ref z, .int k] (mWz γ z z2 z10 z11 z12 z13 z14 z15 z16 z17 z18 z19 z22 z23 z24 z25 z26 z27 z28 z29 z30 z31 z32 z33 z36 z37 z38 z39 z40 z41 z42 z43 z44 z45 z46 z47 z48 z55 z56 z59 z60 z61 n0 n1 n49 n50 n51 n52 n53 n54 n57 n58 n62 n63 g n rs) (fun r w1 => r = some (.int 0) ∧ w1 = (mWz γ z z2 z10 z11 z12 z13 z14 z15 z16 z17 z18 z19 z22 z23 z24 z25 z26 z27 z28 z29 z30 z31 z32 z33 z36 z37 z38 z39 z40 z41 z42 z43 z44 z45 z46 z47 z48 z55 z56 z59 z60 z61 n0 n1 n49 n50 n51 n52 n53 n54 n57 n58 n62 n63 g n (F_m_fails g n rs k))) := by
  refine k_ofW (by decide) (Nat.le_of_ble_eq_true rfl) ?_
  intro p9 e s m below meth c A ls hC hr hlocks hname hw hl
  have hx := hC.1
  have hb := hC.2.1
  have hl : lv_has ls 2 [(0, .ref z), (1, .int k)] := hl
  refine lv_aload_n hx hb dX12_fails_0 rfl (lv_at hl 0 rfl) ?_
  refine lv_iload_n hx hb dX12_fails_1 rfl (lv_at hl 1 rfl) ?_
  refine lv_bipush (v := 16) hx hb dX12_fails_2 (by decide) ?_
  refine lv_aload_n hx hb dX12_fails_4 rfl (lv_at hl 0 rfl) ?_
  refine fg_RX12_157 hC hw 0 rfl rfl dX12_fails_5 ?_
  refine lv_imul hx hb dX12_fails_8 ?_
  refine lv_iadd hx hb dX12_fails_9 ?_
  refine fs_RX12_178 hC hw 0 rfl rfl rfl (Nat.le_of_ble_eq_true rfl) dX12_fails_10 (fun H locs hw => ?_)
  have hw : kW γ A (mWz γ z z2 z10 z11 z12 z13 z14 z15 z16 z17 z18 z19 z22 z23 z24 z25 z26 z27 z28 z29 z30 z31 z32 z33 z36 z37 z38 z39 z40 z41 z42 z43 z44 z45 z46 z47 z48 z55 z56 z59 z60 z61 n0 n1 n49 n50 n51 n52 n53 n54 n57 n58 n62 n63 g n ((k + (16 * (nI (ts g n (rs.2.1))))), (rs.2.1), (rs.2.2.1), (rs.2.2.2.1), (rs.2.2.2.2.1), (rs.2.2.2.2.2))) s H locs := hw
  refine lv_iconst (v := 0) hx hb dX12_fails_13 (by decide) ?_
  have hE : (F_m_fails g n rs k) = ((k + (16 * (nI (ts g n (rs.2.1))))), (rs.2.1), (rs.2.2.1), (rs.2.2.2.1), (rs.2.2.2.2.1), (rs.2.2.2.2.2)) := by unfold F_m_fails; rfl
  have hw : kW γ A (mWz γ z z2 z10 z11 z12 z13 z14 z15 z16 z17 z18 z19 z22 z23 z24 z25 z26 z27 z28 z29 z30 z31 z32 z33 z36 z37 z38 z39 z40 z41 z42 z43 z44 z45 z46 z47 z48 z55 z56 z59 z60 z61 n0 n1 n49 n50 n51 n52 n53 n54 n57 n58 n62 n63 g n (F_m_fails g n rs k)) s H locs := by first | (rw [hE]; exact hw) | exact hw
  exact k_zret hC hr hlocks rfl hw [0, 1] rfl rfl ⟨rfl, rfl⟩ (by decide) (by decide) dX12_fails_14

def F_m_isWord (g : Nat → Int32) (n : Nat) (rs : mRS) (x : Int64) : Int32 :=
  if (mk g n (rs.2.1)) = 1 then (if (mw g n (rs.2.1)) = x then 1 else 0) else 0
set_option maxHeartbeats 4000000 in
set_option maxRecDepth 100000 in
theorem c_m_isWord (γ : kΓ) (l : Launch) (z : Nat) (z2 : Nat) (z10 : Nat) (z11 : Nat) (z12 : Nat) (z13 : Nat) (z14 : Nat) (z15 : Nat) (z16 : Nat) (z17 : Nat) (z18 : Nat) (z19 : Nat) (z22 : Nat) (z23 : Nat) (z24 : Nat) (z25 : Nat) (z26 : Nat) (z27 : Nat) (z28 : Nat) (z29 : Nat) (z30 : Nat) (z31 : Nat) (z32 : Nat) (z33 : Nat) (z36 : Nat) (z37 : Nat) (z38 : Nat) (z39 : Nat) (z40 : Nat) (z41 : Nat) (z42 : Nat) (z43 : Nat) (z44 : Nat) (z45 : Nat) (z46 : Nat) (z47 : Nat) (z48 : Nat) (z55 : Nat) (z56 : Nat) (z59 : Nat) (z60 : Nat) (z61 : Nat) (n0 : Int32) (n1 : Int32) (n49 : Int32) (n50 : Int32) (n51 : Int32) (n52 : Int32) (n53 : Int32) (n54 : Int32) (n57 : Int32) (n58 : Int32) (n62 : Int32) (n63 : Int64) (n : Nat) (g : Nat → Int32) (rs : mRS) (x : Int64) (hn : n ≤ 1000) : kM γ l yX12_isWord cX12_isWord 3 ((some .boolean)) ({ frames := 0, cells := 0, slots := 0, locals := 0 } : Room) [.ref z, .long x] (mWz γ z z2 z10 z11 z12 z13 z14 z15 z16 z17 z18 z19 z22 z23 z24 z25 z26 z27 z28 z29 z30 z31 z32 z33 z36 z37 z38 z39 z40 z41 z42 z43 z44 z45 z46 z47 z48 z55 z56 z59 z60 z61 n0 n1 n49 n50 n51 n52 n53 n54 n57 n58 n62 n63 g n rs) (fun r w1 => r = some (.int (F_m_isWord g n rs x)) ∧ w1 = (mWz γ z z2 z10 z11 z12 z13 z14 z15 z16 z17 z18 z19 z22 z23 z24 z25 z26 z27 z28 z29 z30 z31 z32 z33 z36 z37 z38 z39 z40 z41 z42 z43 z44 z45 z46 z47 z48 z55 z56 z59 z60 z61 n0 n1 n49 n50 n51 n52 n53 n54 n57 n58 n62 n63 g n rs)) := by
  refine k_ofW (by decide) (Nat.le_of_ble_eq_true rfl) ?_
  intro p9 e s m below meth c A ls hC hr hlocks hname hw hl
  have hx := hC.1
  have hb := hC.2.1
  have hl : lv_has ls 3 [(0, .ref z), (1, .long x)] := hl
  refine lv_aload_n hx hb dX12_isWord_0 rfl (lv_at hl 0 rfl) ?_
  refine fg_RX12_167 hC hw 0 rfl rfl dX12_isWord_1 ?_
  refine lv_iconst (v := 1) hx hb dX12_isWord_4 (by decide) ?_
  refine lv_icmp_ne (tgt := 21) hx hb dX12_isWord_5 (by decide) (fun c_57 => ?_) (fun c_57 => ?_)
  · refine lv_iconst (v := 0) hx hb dX12_isWord_21 (by decide) ?_
    have hE : (F_m_isWord g n rs x) = 0 := by unfold F_m_isWord; rw [if_neg c_57]
    have hw : kW γ A (mWz γ z z2 z10 z11 z12 z13 z14 z15 z16 z17 z18 z19 z22 z23 z24 z25 z26 z27 z28 z29 z30 z31 z32 z33 z36 z37 z38 z39 z40 z41 z42 z43 z44 z45 z46 z47 z48 z55 z56 z59 z60 z61 n0 n1 n49 n50 n51 n52 n53 n54 n57 n58 n62 n63 g n rs) s s.heap [] := by first | (rw [hE]; exact hw) | exact hw
    exact k_zret hC hr hlocks rfl hw [0, 1] rfl rfl ⟨by rw [hE], rfl⟩ (by decide) (by decide) dX12_isWord_22
  · refine lv_aload_n hx hb dX12_isWord_8 rfl (lv_at hl 0 rfl) ?_
    refine fg_RX12_160 hC hw 0 rfl rfl dX12_isWord_9 ?_
    refine lv_lload_n hx hb dX12_isWord_12 rfl (lv_at hl 1 rfl) ?_
    refine W.lcmp hx hb dX12_isWord_13 ?_
    refine lv_if_ne (tgt := 21) hx hb dX12_isWord_14 (by decide) (fun c_58 => ?_) (fun c_58 => ?_)
    · have c_58 : ¬ (mw g n (rs.2.1)) = x := fun h9 => c_58 (by rw [h9]; exact k_cmp_self9 _)
      refine lv_iconst (v := 0) hx hb dX12_isWord_21 (by decide) ?_
      have hE : (F_m_isWord g n rs x) = 0 := by unfold F_m_isWord; rw [if_pos c_57, if_neg c_58]
      have hw : kW γ A (mWz γ z z2 z10 z11 z12 z13 z14 z15 z16 z17 z18 z19 z22 z23 z24 z25 z26 z27 z28 z29 z30 z31 z32 z33 z36 z37 z38 z39 z40 z41 z42 z43 z44 z45 z46 z47 z48 z55 z56 z59 z60 z61 n0 n1 n49 n50 n51 n52 n53 n54 n57 n58 n62 n63 g n rs) s s.heap [] := by first | (rw [hE]; exact hw) | exact hw
      exact k_zret hC hr hlocks rfl hw [0, 1] rfl rfl ⟨by rw [hE], rfl⟩ (by decide) (by decide) dX12_isWord_22
    · have c_58 : (mw g n (rs.2.1)) = x := k_cmp0 c_58
      refine lv_iconst (v := 1) hx hb dX12_isWord_17 (by decide) ?_
      refine lv_goto (tgt := 22) hx hb dX12_isWord_18 (by decide) ?_
      have hE : (F_m_isWord g n rs x) = 1 := by unfold F_m_isWord; rw [if_pos c_57, if_pos c_58]
      have hw : kW γ A (mWz γ z z2 z10 z11 z12 z13 z14 z15 z16 z17 z18 z19 z22 z23 z24 z25 z26 z27 z28 z29 z30 z31 z32 z33 z36 z37 z38 z39 z40 z41 z42 z43 z44 z45 z46 z47 z48 z55 z56 z59 z60 z61 n0 n1 n49 n50 n51 n52 n53 n54 n57 n58 n62 n63 g n rs) s s.heap [] := by first | (rw [hE]; exact hw) | exact hw
      exact k_zret hC hr hlocks rfl hw [0, 1] rfl rfl ⟨by rw [hE], rfl⟩ (by decide) (by decide) dX12_isWord_22

def F_m_isSign (g : Nat → Int32) (n : Nat) (rs : mRS) (k : Int32) : Int32 :=
  if (mk g n (rs.2.1)) = 3 then (if (g ((nI (ts g n (rs.2.1))) : Int32).toNatClampNeg) = k then 1 else 0) else 0
set_option maxHeartbeats 4000000 in
set_option maxRecDepth 100000 in
theorem c_m_isSign (γ : kΓ) (l : Launch) (z : Nat) (z2 : Nat) (z10 : Nat) (z11 : Nat) (z12 : Nat) (z13 : Nat) (z14 : Nat) (z15 : Nat) (z16 : Nat) (z17 : Nat) (z18 : Nat) (z19 : Nat) (z22 : Nat) (z23 : Nat) (z24 : Nat) (z25 : Nat) (z26 : Nat) (z27 : Nat) (z28 : Nat) (z29 : Nat) (z30 : Nat) (z31 : Nat) (z32 : Nat) (z33 : Nat) (z36 : Nat) (z37 : Nat) (z38 : Nat) (z39 : Nat) (z40 : Nat) (z41 : Nat) (z42 : Nat) (z43 : Nat) (z44 : Nat) (z45 : Nat) (z46 : Nat) (z47 : Nat) (z48 : Nat) (z55 : Nat) (z56 : Nat) (z59 : Nat) (z60 : Nat) (z61 : Nat) (n0 : Int32) (n1 : Int32) (n49 : Int32) (n50 : Int32) (n51 : Int32) (n52 : Int32) (n53 : Int32) (n54 : Int32) (n57 : Int32) (n58 : Int32) (n62 : Int32) (n63 : Int64) (n : Nat) (g : Nat → Int32) (rs : mRS) (k : Int32) (hn : n ≤ 1000) : kM γ l yX12_isSign cX12_isSign 2 ((some .boolean)) ({ frames := 0, cells := 0, slots := 0, locals := 0 } : Room) [.ref z, .int k] (mWz γ z z2 z10 z11 z12 z13 z14 z15 z16 z17 z18 z19 z22 z23 z24 z25 z26 z27 z28 z29 z30 z31 z32 z33 z36 z37 z38 z39 z40 z41 z42 z43 z44 z45 z46 z47 z48 z55 z56 z59 z60 z61 n0 n1 n49 n50 n51 n52 n53 n54 n57 n58 n62 n63 g n rs) (fun r w1 => r = some (.int (F_m_isSign g n rs k)) ∧ w1 = (mWz γ z z2 z10 z11 z12 z13 z14 z15 z16 z17 z18 z19 z22 z23 z24 z25 z26 z27 z28 z29 z30 z31 z32 z33 z36 z37 z38 z39 z40 z41 z42 z43 z44 z45 z46 z47 z48 z55 z56 z59 z60 z61 n0 n1 n49 n50 n51 n52 n53 n54 n57 n58 n62 n63 g n rs)) := by
  refine k_ofW (by decide) (Nat.le_of_ble_eq_true rfl) ?_
  intro p9 e s m below meth c A ls hC hr hlocks hname hw hl
  have hx := hC.1
  have hb := hC.2.1
  have hl : lv_has ls 2 [(0, .ref z), (1, .int k)] := hl
  refine lv_aload_n hx hb dX12_isSign_0 rfl (lv_at hl 0 rfl) ?_
  refine fg_RX12_167 hC hw 0 rfl rfl dX12_isSign_1 ?_
  refine lv_iconst (v := 3) hx hb dX12_isSign_4 (by decide) ?_
  refine lv_icmp_ne (tgt := 25) hx hb dX12_isSign_5 (by decide) (fun c_61 => ?_) (fun c_61 => ?_)
  · refine lv_iconst (v := 0) hx hb dX12_isSign_25 (by decide) ?_
    have hE : (F_m_isSign g n rs k) = 0 := by unfold F_m_isSign; rw [if_neg c_61]
    have hw : kW γ A (mWz γ z z2 z10 z11 z12 z13 z14 z15 z16 z17 z18 z19 z22 z23 z24 z25 z26 z27 z28 z29 z30 z31 z32 z33 z36 z37 z38 z39 z40 z41 z42 z43 z44 z45 z46 z47 z48 z55 z56 z59 z60 z61 n0 n1 n49 n50 n51 n52 n53 n54 n57 n58 n62 n63 g n rs) s s.heap [] := by first | (rw [hE]; exact hw) | exact hw
    exact k_zret hC hr hlocks rfl hw [0, 1] rfl rfl ⟨by rw [hE], rfl⟩ (by decide) (by decide) dX12_isSign_26
  · refine lv_aload_n hx hb dX12_isSign_8 rfl (lv_at hl 0 rfl) ?_
    refine fg_RX12_7 hC hw 0 rfl rfl dX12_isSign_9 ?_
    refine lv_aload_n hx hb dX12_isSign_12 rfl (lv_at hl 0 rfl) ?_
    refine fg_RX12_157 hC hw 0 rfl rfl dX12_isSign_13 ?_
    refine k_iald hC hw 1 rfl (vp_in_nI (Nat.lt_of_lt_of_le (mk3_lt c_61) hn) (by decide)) dX12_isSign_16 ?_
    refine lv_iload_n hx hb dX12_isSign_17 rfl (lv_at hl 1 rfl) ?_
    refine lv_icmp_ne (tgt := 25) hx hb dX12_isSign_18 (by decide) (fun c_62 => ?_) (fun c_62 => ?_)
    · refine lv_iconst (v := 0) hx hb dX12_isSign_25 (by decide) ?_
      have hE : (F_m_isSign g n rs k) = 0 := by unfold F_m_isSign; rw [if_pos c_61, if_neg c_62]
      have hw : kW γ A (mWz γ z z2 z10 z11 z12 z13 z14 z15 z16 z17 z18 z19 z22 z23 z24 z25 z26 z27 z28 z29 z30 z31 z32 z33 z36 z37 z38 z39 z40 z41 z42 z43 z44 z45 z46 z47 z48 z55 z56 z59 z60 z61 n0 n1 n49 n50 n51 n52 n53 n54 n57 n58 n62 n63 g n rs) s s.heap [] := by first | (rw [hE]; exact hw) | exact hw
      exact k_zret hC hr hlocks rfl hw [0, 1] rfl rfl ⟨by rw [hE], rfl⟩ (by decide) (by decide) dX12_isSign_26
    · refine lv_iconst (v := 1) hx hb dX12_isSign_21 (by decide) ?_
      refine lv_goto (tgt := 26) hx hb dX12_isSign_22 (by decide) ?_
      have hE : (F_m_isSign g n rs k) = 1 := by unfold F_m_isSign; rw [if_pos c_61, if_pos c_62]
      have hw : kW γ A (mWz γ z z2 z10 z11 z12 z13 z14 z15 z16 z17 z18 z19 z22 z23 z24 z25 z26 z27 z28 z29 z30 z31 z32 z33 z36 z37 z38 z39 z40 z41 z42 z43 z44 z45 z46 z47 z48 z55 z56 z59 z60 z61 n0 n1 n49 n50 n51 n52 n53 n54 n57 n58 n62 n63 g n rs) s s.heap [] := by first | (rw [hE]; exact hw) | exact hw
      exact k_zret hC hr hlocks rfl hw [0, 1] rfl rfl ⟨by rw [hE], rfl⟩ (by decide) (by decide) dX12_isSign_26

def F_m_fact (g : Nat → Int32) (n : Nat) (rs : mRS) : Int32 :=
  if (mk g n (rs.2.1)) = 1 then (if (mw g n (rs.2.1)) = 1388945614 then 1 else (if (mw g n (rs.2.1)) = 360944 then 2 else (if (mw g n (rs.2.1)) = 8683934 then 3 else (if (mw g n (rs.2.1)) = 40595 then 4 else 0)))) else 0
set_option maxHeartbeats 4000000 in
set_option maxRecDepth 100000 in
theorem c_m_fact (γ : kΓ) (l : Launch) (z : Nat) (z2 : Nat) (z10 : Nat) (z11 : Nat) (z12 : Nat) (z13 : Nat) (z14 : Nat) (z15 : Nat) (z16 : Nat) (z17 : Nat) (z18 : Nat) (z19 : Nat) (z22 : Nat) (z23 : Nat) (z24 : Nat) (z25 : Nat) (z26 : Nat) (z27 : Nat) (z28 : Nat) (z29 : Nat) (z30 : Nat) (z31 : Nat) (z32 : Nat) (z33 : Nat) (z36 : Nat) (z37 : Nat) (z38 : Nat) (z39 : Nat) (z40 : Nat) (z41 : Nat) (z42 : Nat) (z43 : Nat) (z44 : Nat) (z45 : Nat) (z46 : Nat) (z47 : Nat) (z48 : Nat) (z55 : Nat) (z56 : Nat) (z59 : Nat) (z60 : Nat) (z61 : Nat) (n0 : Int32) (n1 : Int32) (n49 : Int32) (n50 : Int32) (n51 : Int32) (n52 : Int32) (n53 : Int32) (n54 : Int32) (n57 : Int32) (n58 : Int32) (n62 : Int32) (n63 : Int64) (n : Nat) (g : Nat → Int32) (rs : mRS) (hn : n ≤ 1000) : kM γ l yX12_fact cX12_fact 1 ((some .int)) ({ frames := 0, cells := 0, slots := 0, locals := 0 } : Room) [.ref z] (mWz γ z z2 z10 z11 z12 z13 z14 z15 z16 z17 z18 z19 z22 z23 z24 z25 z26 z27 z28 z29 z30 z31 z32 z33 z36 z37 z38 z39 z40 z41 z42 z43 z44 z45 z46 z47 z48 z55 z56 z59 z60 z61 n0 n1 n49 n50 n51 n52 n53 n54 n57 n58 n62 n63 g n rs) (fun r w1 => r = some (.int (F_m_fact g n rs)) ∧ w1 = (mWz γ z z2 z10 z11 z12 z13 z14 z15 z16 z17 z18 z19 z22 z23 z24 z25 z26 z27 z28 z29 z30 z31 z32 z33 z36 z37 z38 z39 z40 z41 z42 z43 z44 z45 z46 z47 z48 z55 z56 z59 z60 z61 n0 n1 n49 n50 n51 n52 n53 n54 n57 n58 n62 n63 g n rs)) := by
  refine k_ofW (by decide) (Nat.le_of_ble_eq_true rfl) ?_
  intro p9 e s m below meth c A ls hC hr hlocks hname hw hl
  have hx := hC.1
  have hb := hC.2.1
  have hl : lv_has ls 1 [(0, .ref z)] := hl
  refine lv_aload_n hx hb dX12_fact_0 rfl (lv_at hl 0 rfl) ?_
  refine fg_RX12_167 hC hw 0 rfl rfl dX12_fact_1 ?_
  refine lv_iconst (v := 1) hx hb dX12_fact_4 (by decide) ?_
  refine lv_icmp_eq (tgt := 10) hx hb dX12_fact_5 (by decide) (fun c_68 => ?_) (fun c_68 => ?_)
  · refine lv_aload_n hx hb dX12_fact_10 rfl (lv_at hl 0 rfl) ?_
    refine fg_RX12_160 hC hw 0 rfl rfl dX12_fact_11 ?_
    refine k_ldc2 hC gw_1507 dX12_fact_14 ?_
    refine W.lcmp hx hb dX12_fact_17 ?_
    refine lv_if_ne (tgt := 23) hx hb dX12_fact_18 (by decide) (fun c_69 => ?_) (fun c_69 => ?_)
    · have c_69 : ¬ (mw g n (rs.2.1)) = 1388945614 := fun h9 => c_69 (by rw [h9]; exact k_cmp_self9 _)
      refine lv_aload_n hx hb dX12_fact_23 rfl (lv_at hl 0 rfl) ?_
      refine fg_RX12_160 hC hw 0 rfl rfl dX12_fact_24 ?_
      refine k_ldc2 hC gw_1508 dX12_fact_27 ?_
      refine W.lcmp hx hb dX12_fact_30 ?_
      refine lv_if_ne (tgt := 36) hx hb dX12_fact_31 (by decide) (fun c_70 => ?_) (fun c_70 => ?_)
      · have c_70 : ¬ (mw g n (rs.2.1)) = 360944 := fun h9 => c_70 (by rw [h9]; exact k_cmp_self9 _)
        refine lv_aload_n hx hb dX12_fact_36 rfl (lv_at hl 0 rfl) ?_
        refine fg_RX12_160 hC hw 0 rfl rfl dX12_fact_37 ?_
        refine k_ldc2 hC gw_1509 dX12_fact_40 ?_
        refine W.lcmp hx hb dX12_fact_43 ?_
        refine lv_if_ne (tgt := 51) hx hb dX12_fact_44 (by decide) (fun c_71 => ?_) (fun c_71 => ?_)
        · have c_71 : ¬ (mw g n (rs.2.1)) = 8683934 := fun h9 => c_71 (by rw [h9]; exact k_cmp_self9 _)
          refine lv_aload_n hx hb dX12_fact_51 rfl (lv_at hl 0 rfl) ?_
          refine fg_RX12_160 hC hw 0 rfl rfl dX12_fact_52 ?_
          refine k_ldc2 hC gw_1510 dX12_fact_55 ?_
          refine W.lcmp hx hb dX12_fact_58 ?_
          refine lv_if_ne (tgt := 66) hx hb dX12_fact_59 (by decide) (fun c_72 => ?_) (fun c_72 => ?_)
          · have c_72 : ¬ (mw g n (rs.2.1)) = 40595 := fun h9 => c_72 (by rw [h9]; exact k_cmp_self9 _)
            refine lv_iconst (v := 0) hx hb dX12_fact_66 (by decide) ?_
            have hE : (F_m_fact g n rs) = 0 := by unfold F_m_fact; rw [if_pos c_68, if_neg c_69, if_neg c_70, if_neg c_71, if_neg c_72]
            have hw : kW γ A (mWz γ z z2 z10 z11 z12 z13 z14 z15 z16 z17 z18 z19 z22 z23 z24 z25 z26 z27 z28 z29 z30 z31 z32 z33 z36 z37 z38 z39 z40 z41 z42 z43 z44 z45 z46 z47 z48 z55 z56 z59 z60 z61 n0 n1 n49 n50 n51 n52 n53 n54 n57 n58 n62 n63 g n rs) s s.heap [] := by first | (rw [hE]; exact hw) | exact hw
            exact k_iret hC hr hlocks hw [0, 1] rfl rfl ⟨by rw [hE], rfl⟩ (by decide) (by decide) dX12_fact_67
          · have c_72 : (mw g n (rs.2.1)) = 40595 := k_cmp0 c_72
            refine lv_iconst (v := 4) hx hb dX12_fact_62 (by decide) ?_
            refine lv_goto (tgt := 67) hx hb dX12_fact_63 (by decide) ?_
            have hE : (F_m_fact g n rs) = 4 := by unfold F_m_fact; rw [if_pos c_68, if_neg c_69, if_neg c_70, if_neg c_71, if_pos c_72]
            have hw : kW γ A (mWz γ z z2 z10 z11 z12 z13 z14 z15 z16 z17 z18 z19 z22 z23 z24 z25 z26 z27 z28 z29 z30 z31 z32 z33 z36 z37 z38 z39 z40 z41 z42 z43 z44 z45 z46 z47 z48 z55 z56 z59 z60 z61 n0 n1 n49 n50 n51 n52 n53 n54 n57 n58 n62 n63 g n rs) s s.heap [] := by first | (rw [hE]; exact hw) | exact hw
            exact k_iret hC hr hlocks hw [0, 1] rfl rfl ⟨by rw [hE], rfl⟩ (by decide) (by decide) dX12_fact_67
        · have c_71 : (mw g n (rs.2.1)) = 8683934 := k_cmp0 c_71
          refine lv_iconst (v := 3) hx hb dX12_fact_47 (by decide) ?_
          refine lv_goto (tgt := 67) hx hb dX12_fact_48 (by decide) ?_
          have hE : (F_m_fact g n rs) = 3 := by unfold F_m_fact; rw [if_pos c_68, if_neg c_69, if_neg c_70, if_pos c_71]
          have hw : kW γ A (mWz γ z z2 z10 z11 z12 z13 z14 z15 z16 z17 z18 z19 z22 z23 z24 z25 z26 z27 z28 z29 z30 z31 z32 z33 z36 z37 z38 z39 z40 z41 z42 z43 z44 z45 z46 z47 z48 z55 z56 z59 z60 z61 n0 n1 n49 n50 n51 n52 n53 n54 n57 n58 n62 n63 g n rs) s s.heap [] := by first | (rw [hE]; exact hw) | exact hw
          exact k_iret hC hr hlocks hw [0, 1] rfl rfl ⟨by rw [hE], rfl⟩ (by decide) (by decide) dX12_fact_67
      · have c_70 : (mw g n (rs.2.1)) = 360944 := k_cmp0 c_70
        refine lv_iconst (v := 2) hx hb dX12_fact_34 (by decide) ?_
        have hE : (F_m_fact g n rs) = 2 := by unfold F_m_fact; rw [if_pos c_68, if_neg c_69, if_pos c_70]
        have hw : kW γ A (mWz γ z z2 z10 z11 z12 z13 z14 z15 z16 z17 z18 z19 z22 z23 z24 z25 z26 z27 z28 z29 z30 z31 z32 z33 z36 z37 z38 z39 z40 z41 z42 z43 z44 z45 z46 z47 z48 z55 z56 z59 z60 z61 n0 n1 n49 n50 n51 n52 n53 n54 n57 n58 n62 n63 g n rs) s s.heap [] := by first | (rw [hE]; exact hw) | exact hw
        exact k_iret hC hr hlocks hw [0, 1] rfl rfl ⟨by rw [hE], rfl⟩ (by decide) (by decide) dX12_fact_35
    · have c_69 : (mw g n (rs.2.1)) = 1388945614 := k_cmp0 c_69
      refine lv_iconst (v := 1) hx hb dX12_fact_21 (by decide) ?_
      have hE : (F_m_fact g n rs) = 1 := by unfold F_m_fact; rw [if_pos c_68, if_pos c_69]
      have hw : kW γ A (mWz γ z z2 z10 z11 z12 z13 z14 z15 z16 z17 z18 z19 z22 z23 z24 z25 z26 z27 z28 z29 z30 z31 z32 z33 z36 z37 z38 z39 z40 z41 z42 z43 z44 z45 z46 z47 z48 z55 z56 z59 z60 z61 n0 n1 n49 n50 n51 n52 n53 n54 n57 n58 n62 n63 g n rs) s s.heap [] := by first | (rw [hE]; exact hw) | exact hw
      exact k_iret hC hr hlocks hw [0, 1] rfl rfl ⟨by rw [hE], rfl⟩ (by decide) (by decide) dX12_fact_22
  · refine lv_iconst (v := 0) hx hb dX12_fact_8 (by decide) ?_
    have hE : (F_m_fact g n rs) = 0 := by unfold F_m_fact; rw [if_neg c_68]
    have hw : kW γ A (mWz γ z z2 z10 z11 z12 z13 z14 z15 z16 z17 z18 z19 z22 z23 z24 z25 z26 z27 z28 z29 z30 z31 z32 z33 z36 z37 z38 z39 z40 z41 z42 z43 z44 z45 z46 z47 z48 z55 z56 z59 z60 z61 n0 n1 n49 n50 n51 n52 n53 n54 n57 n58 n62 n63 g n rs) s s.heap [] := by first | (rw [hE]; exact hw) | exact hw
    exact k_iret hC hr hlocks hw [0, 1] rfl rfl ⟨by rw [hE], rfl⟩ (by decide) (by decide) dX12_fact_9

def F_m_isKept (g : Nat → Int32) (n : Nat) (rs : mRS) : Int32 :=
  if (mk g n (rs.2.1)) = 1 then (if (mw g n (rs.2.1)) = 7871591333 then 1 else (if (mw g n (rs.2.1)) = 12532058 then 1 else (if (mw g n (rs.2.1)) = 316163 then 1 else (if (mw g n (rs.2.1)) = 2546381602 then 1 else (if (mw g n (rs.2.1)) = 289912034 then 1 else (if (mw g n (rs.2.1)) = 10820768 then 1 else (if (mw g n (rs.2.1)) = 370000 then 1 else (if (mw g n (rs.2.1)) = 79329434 then 1 else (if (mw g n (rs.2.1)) = 3746728 then 1 else (if (mw g n (rs.2.1)) = 40187 then 1 else (if (mw g n (rs.2.1)) = 10793234 then 1 else (if (mw g n (rs.2.1)) = 139055 then 1 else (if (mw g n (rs.2.1)) = 326280 then 1 else (if (mw g n (rs.2.1)) = 8740238 then 1 else (if (mw g n (rs.2.1)) = 277680074 then 1 else (if (mw g n (rs.2.1)) = 49538619 then 1 else (if (mw g n (rs.2.1)) = 269726508 then 1 else (if (mw g n (rs.2.1)) = 10631 then 1 else (if (mw g n (rs.2.1)) = 1111 then 1 else (if (mw g n (rs.2.1)) = 423 then 1 else 0)))))))))))))))))))) else 1
set_option maxHeartbeats 4000000 in
set_option maxRecDepth 100000 in
theorem c_m_isKept (γ : kΓ) (l : Launch) (z : Nat) (z2 : Nat) (z10 : Nat) (z11 : Nat) (z12 : Nat) (z13 : Nat) (z14 : Nat) (z15 : Nat) (z16 : Nat) (z17 : Nat) (z18 : Nat) (z19 : Nat) (z22 : Nat) (z23 : Nat) (z24 : Nat) (z25 : Nat) (z26 : Nat) (z27 : Nat) (z28 : Nat) (z29 : Nat) (z30 : Nat) (z31 : Nat) (z32 : Nat) (z33 : Nat) (z36 : Nat) (z37 : Nat) (z38 : Nat) (z39 : Nat) (z40 : Nat) (z41 : Nat) (z42 : Nat) (z43 : Nat) (z44 : Nat) (z45 : Nat) (z46 : Nat) (z47 : Nat) (z48 : Nat) (z55 : Nat) (z56 : Nat) (z59 : Nat) (z60 : Nat) (z61 : Nat) (n0 : Int32) (n1 : Int32) (n49 : Int32) (n50 : Int32) (n51 : Int32) (n52 : Int32) (n53 : Int32) (n54 : Int32) (n57 : Int32) (n58 : Int32) (n62 : Int32) (n63 : Int64) (n : Nat) (g : Nat → Int32) (rs : mRS) (hn : n ≤ 1000) : kM γ l yX12_isKept cX12_isKept 1 ((some .boolean)) ({ frames := 0, cells := 0, slots := 0, locals := 0 } : Room) [.ref z] (mWz γ z z2 z10 z11 z12 z13 z14 z15 z16 z17 z18 z19 z22 z23 z24 z25 z26 z27 z28 z29 z30 z31 z32 z33 z36 z37 z38 z39 z40 z41 z42 z43 z44 z45 z46 z47 z48 z55 z56 z59 z60 z61 n0 n1 n49 n50 n51 n52 n53 n54 n57 n58 n62 n63 g n rs) (fun r w1 => r = some (.int (F_m_isKept g n rs)) ∧ w1 = (mWz γ z z2 z10 z11 z12 z13 z14 z15 z16 z17 z18 z19 z22 z23 z24 z25 z26 z27 z28 z29 z30 z31 z32 z33 z36 z37 z38 z39 z40 z41 z42 z43 z44 z45 z46 z47 z48 z55 z56 z59 z60 z61 n0 n1 n49 n50 n51 n52 n53 n54 n57 n58 n62 n63 g n rs)) := by
  refine k_ofW (by decide) (Nat.le_of_ble_eq_true rfl) ?_
  intro p9 e s m below meth c A ls hC hr hlocks hname hw hl
  have hx := hC.1
  have hb := hC.2.1
  have hl : lv_has ls 1 [(0, .ref z)] := hl
  refine lv_aload_n hx hb dX12_isKept_0 rfl (lv_at hl 0 rfl) ?_
  refine fg_RX12_167 hC hw 0 rfl rfl dX12_isKept_1 ?_
  refine lv_iconst (v := 1) hx hb dX12_isKept_4 (by decide) ?_
  refine lv_icmp_eq (tgt := 10) hx hb dX12_isKept_5 (by decide) (fun c_94 => ?_) (fun c_94 => ?_)
  · refine lv_aload_n hx hb dX12_isKept_10 rfl (lv_at hl 0 rfl) ?_
    refine fg_RX12_160 hC hw 0 rfl rfl dX12_isKept_11 ?_
    refine k_ldc2 hC gw_1412 dX12_isKept_14 ?_
    refine W.lcmp hx hb dX12_isKept_17 ?_
    refine lv_if_eq (tgt := 230) hx hb dX12_isKept_18 (by decide) (fun c_95 => ?_) (fun c_95 => ?_)
    · have c_95 : (mw g n (rs.2.1)) = 7871591333 := k_cmp0 c_95
      refine lv_iconst (v := 1) hx hb dX12_isKept_230 (by decide) ?_
      refine lv_goto (tgt := 235) hx hb dX12_isKept_231 (by decide) ?_
      have hE : (F_m_isKept g n rs) = 1 := by unfold F_m_isKept; rw [if_pos c_94, if_pos c_95]
      have hw : kW γ A (mWz γ z z2 z10 z11 z12 z13 z14 z15 z16 z17 z18 z19 z22 z23 z24 z25 z26 z27 z28 z29 z30 z31 z32 z33 z36 z37 z38 z39 z40 z41 z42 z43 z44 z45 z46 z47 z48 z55 z56 z59 z60 z61 n0 n1 n49 n50 n51 n52 n53 n54 n57 n58 n62 n63 g n rs) s s.heap [] := by first | (rw [hE]; exact hw) | exact hw
      exact k_zret hC hr hlocks rfl hw [0, 1] rfl rfl ⟨by rw [hE], rfl⟩ (by decide) (by decide) dX12_isKept_235
    · have c_95 : ¬ (mw g n (rs.2.1)) = 7871591333 := fun h9 => c_95 (by rw [h9]; exact k_cmp_self9 _)
      refine lv_aload_n hx hb dX12_isKept_21 rfl (lv_at hl 0 rfl) ?_
      refine fg_RX12_160 hC hw 0 rfl rfl dX12_isKept_22 ?_
      refine k_ldc2 hC gw_1433 dX12_isKept_25 ?_
      refine W.lcmp hx hb dX12_isKept_28 ?_
      refine lv_if_eq (tgt := 230) hx hb dX12_isKept_29 (by decide) (fun c_96 => ?_) (fun c_96 => ?_)
      · have c_96 : (mw g n (rs.2.1)) = 12532058 := k_cmp0 c_96
        refine lv_iconst (v := 1) hx hb dX12_isKept_230 (by decide) ?_
        refine lv_goto (tgt := 235) hx hb dX12_isKept_231 (by decide) ?_
        have hE : (F_m_isKept g n rs) = 1 := by unfold F_m_isKept; rw [if_pos c_94, if_neg c_95, if_pos c_96]
        have hw : kW γ A (mWz γ z z2 z10 z11 z12 z13 z14 z15 z16 z17 z18 z19 z22 z23 z24 z25 z26 z27 z28 z29 z30 z31 z32 z33 z36 z37 z38 z39 z40 z41 z42 z43 z44 z45 z46 z47 z48 z55 z56 z59 z60 z61 n0 n1 n49 n50 n51 n52 n53 n54 n57 n58 n62 n63 g n rs) s s.heap [] := by first | (rw [hE]; exact hw) | exact hw
        exact k_zret hC hr hlocks rfl hw [0, 1] rfl rfl ⟨by rw [hE], rfl⟩ (by decide) (by decide) dX12_isKept_235
      · have c_96 : ¬ (mw g n (rs.2.1)) = 12532058 := fun h9 => c_96 (by rw [h9]; exact k_cmp_self9 _)
        refine lv_aload_n hx hb dX12_isKept_32 rfl (lv_at hl 0 rfl) ?_
        refine fg_RX12_160 hC hw 0 rfl rfl dX12_isKept_33 ?_
        refine k_ldc2 hC gw_1434 dX12_isKept_36 ?_
        refine W.lcmp hx hb dX12_isKept_39 ?_
        refine lv_if_eq (tgt := 230) hx hb dX12_isKept_40 (by decide) (fun c_97 => ?_) (fun c_97 => ?_)
        · have c_97 : (mw g n (rs.2.1)) = 316163 := k_cmp0 c_97
          refine lv_iconst (v := 1) hx hb dX12_isKept_230 (by decide) ?_
          refine lv_goto (tgt := 235) hx hb dX12_isKept_231 (by decide) ?_
          have hE : (F_m_isKept g n rs) = 1 := by unfold F_m_isKept; rw [if_pos c_94, if_neg c_95, if_neg c_96, if_pos c_97]
          have hw : kW γ A (mWz γ z z2 z10 z11 z12 z13 z14 z15 z16 z17 z18 z19 z22 z23 z24 z25 z26 z27 z28 z29 z30 z31 z32 z33 z36 z37 z38 z39 z40 z41 z42 z43 z44 z45 z46 z47 z48 z55 z56 z59 z60 z61 n0 n1 n49 n50 n51 n52 n53 n54 n57 n58 n62 n63 g n rs) s s.heap [] := by first | (rw [hE]; exact hw) | exact hw
          exact k_zret hC hr hlocks rfl hw [0, 1] rfl rfl ⟨by rw [hE], rfl⟩ (by decide) (by decide) dX12_isKept_235
        · have c_97 : ¬ (mw g n (rs.2.1)) = 316163 := fun h9 => c_97 (by rw [h9]; exact k_cmp_self9 _)
          refine lv_aload_n hx hb dX12_isKept_43 rfl (lv_at hl 0 rfl) ?_
          refine fg_RX12_160 hC hw 0 rfl rfl dX12_isKept_44 ?_
          refine k_ldc2 hC gw_1435 dX12_isKept_47 ?_
          refine W.lcmp hx hb dX12_isKept_50 ?_
          refine lv_if_eq (tgt := 230) hx hb dX12_isKept_51 (by decide) (fun c_98 => ?_) (fun c_98 => ?_)
          · have c_98 : (mw g n (rs.2.1)) = 2546381602 := k_cmp0 c_98
            refine lv_iconst (v := 1) hx hb dX12_isKept_230 (by decide) ?_
            refine lv_goto (tgt := 235) hx hb dX12_isKept_231 (by decide) ?_
            have hE : (F_m_isKept g n rs) = 1 := by unfold F_m_isKept; rw [if_pos c_94, if_neg c_95, if_neg c_96, if_neg c_97, if_pos c_98]
            have hw : kW γ A (mWz γ z z2 z10 z11 z12 z13 z14 z15 z16 z17 z18 z19 z22 z23 z24 z25 z26 z27 z28 z29 z30 z31 z32 z33 z36 z37 z38 z39 z40 z41 z42 z43 z44 z45 z46 z47 z48 z55 z56 z59 z60 z61 n0 n1 n49 n50 n51 n52 n53 n54 n57 n58 n62 n63 g n rs) s s.heap [] := by first | (rw [hE]; exact hw) | exact hw
            exact k_zret hC hr hlocks rfl hw [0, 1] rfl rfl ⟨by rw [hE], rfl⟩ (by decide) (by decide) dX12_isKept_235
          · have c_98 : ¬ (mw g n (rs.2.1)) = 2546381602 := fun h9 => c_98 (by rw [h9]; exact k_cmp_self9 _)
            refine lv_aload_n hx hb dX12_isKept_54 rfl (lv_at hl 0 rfl) ?_
            refine fg_RX12_160 hC hw 0 rfl rfl dX12_isKept_55 ?_
            refine k_ldc2 hC gw_1436 dX12_isKept_58 ?_
            refine W.lcmp hx hb dX12_isKept_61 ?_
            refine lv_if_eq (tgt := 230) hx hb dX12_isKept_62 (by decide) (fun c_99 => ?_) (fun c_99 => ?_)
            · have c_99 : (mw g n (rs.2.1)) = 289912034 := k_cmp0 c_99
              refine lv_iconst (v := 1) hx hb dX12_isKept_230 (by decide) ?_
              refine lv_goto (tgt := 235) hx hb dX12_isKept_231 (by decide) ?_
              have hE : (F_m_isKept g n rs) = 1 := by unfold F_m_isKept; rw [if_pos c_94, if_neg c_95, if_neg c_96, if_neg c_97, if_neg c_98, if_pos c_99]
              have hw : kW γ A (mWz γ z z2 z10 z11 z12 z13 z14 z15 z16 z17 z18 z19 z22 z23 z24 z25 z26 z27 z28 z29 z30 z31 z32 z33 z36 z37 z38 z39 z40 z41 z42 z43 z44 z45 z46 z47 z48 z55 z56 z59 z60 z61 n0 n1 n49 n50 n51 n52 n53 n54 n57 n58 n62 n63 g n rs) s s.heap [] := by first | (rw [hE]; exact hw) | exact hw
              exact k_zret hC hr hlocks rfl hw [0, 1] rfl rfl ⟨by rw [hE], rfl⟩ (by decide) (by decide) dX12_isKept_235
            · have c_99 : ¬ (mw g n (rs.2.1)) = 289912034 := fun h9 => c_99 (by rw [h9]; exact k_cmp_self9 _)
              refine lv_aload_n hx hb dX12_isKept_65 rfl (lv_at hl 0 rfl) ?_
              refine fg_RX12_160 hC hw 0 rfl rfl dX12_isKept_66 ?_
              refine k_ldc2 hC gw_1437 dX12_isKept_69 ?_
              refine W.lcmp hx hb dX12_isKept_72 ?_
              refine lv_if_eq (tgt := 230) hx hb dX12_isKept_73 (by decide) (fun c_100 => ?_) (fun c_100 => ?_)
              · have c_100 : (mw g n (rs.2.1)) = 10820768 := k_cmp0 c_100
                refine lv_iconst (v := 1) hx hb dX12_isKept_230 (by decide) ?_
                refine lv_goto (tgt := 235) hx hb dX12_isKept_231 (by decide) ?_
                have hE : (F_m_isKept g n rs) = 1 := by unfold F_m_isKept; rw [if_pos c_94, if_neg c_95, if_neg c_96, if_neg c_97, if_neg c_98, if_neg c_99, if_pos c_100]
                have hw : kW γ A (mWz γ z z2 z10 z11 z12 z13 z14 z15 z16 z17 z18 z19 z22 z23 z24 z25 z26 z27 z28 z29 z30 z31 z32 z33 z36 z37 z38 z39 z40 z41 z42 z43 z44 z45 z46 z47 z48 z55 z56 z59 z60 z61 n0 n1 n49 n50 n51 n52 n53 n54 n57 n58 n62 n63 g n rs) s s.heap [] := by first | (rw [hE]; exact hw) | exact hw
                exact k_zret hC hr hlocks rfl hw [0, 1] rfl rfl ⟨by rw [hE], rfl⟩ (by decide) (by decide) dX12_isKept_235
              · have c_100 : ¬ (mw g n (rs.2.1)) = 10820768 := fun h9 => c_100 (by rw [h9]; exact k_cmp_self9 _)
                refine lv_aload_n hx hb dX12_isKept_76 rfl (lv_at hl 0 rfl) ?_
                refine fg_RX12_160 hC hw 0 rfl rfl dX12_isKept_77 ?_
                refine k_ldc2 hC gw_1438 dX12_isKept_80 ?_
                refine W.lcmp hx hb dX12_isKept_83 ?_
                refine lv_if_eq (tgt := 230) hx hb dX12_isKept_84 (by decide) (fun c_101 => ?_) (fun c_101 => ?_)
                · have c_101 : (mw g n (rs.2.1)) = 370000 := k_cmp0 c_101
                  refine lv_iconst (v := 1) hx hb dX12_isKept_230 (by decide) ?_
                  refine lv_goto (tgt := 235) hx hb dX12_isKept_231 (by decide) ?_
                  have hE : (F_m_isKept g n rs) = 1 := by unfold F_m_isKept; rw [if_pos c_94, if_neg c_95, if_neg c_96, if_neg c_97, if_neg c_98, if_neg c_99, if_neg c_100, if_pos c_101]
                  have hw : kW γ A (mWz γ z z2 z10 z11 z12 z13 z14 z15 z16 z17 z18 z19 z22 z23 z24 z25 z26 z27 z28 z29 z30 z31 z32 z33 z36 z37 z38 z39 z40 z41 z42 z43 z44 z45 z46 z47 z48 z55 z56 z59 z60 z61 n0 n1 n49 n50 n51 n52 n53 n54 n57 n58 n62 n63 g n rs) s s.heap [] := by first | (rw [hE]; exact hw) | exact hw
                  exact k_zret hC hr hlocks rfl hw [0, 1] rfl rfl ⟨by rw [hE], rfl⟩ (by decide) (by decide) dX12_isKept_235
                · have c_101 : ¬ (mw g n (rs.2.1)) = 370000 := fun h9 => c_101 (by rw [h9]; exact k_cmp_self9 _)
                  refine lv_aload_n hx hb dX12_isKept_87 rfl (lv_at hl 0 rfl) ?_
                  refine fg_RX12_160 hC hw 0 rfl rfl dX12_isKept_88 ?_
                  refine k_ldc2 hC gw_1439 dX12_isKept_91 ?_
                  refine W.lcmp hx hb dX12_isKept_94 ?_
                  refine lv_if_eq (tgt := 230) hx hb dX12_isKept_95 (by decide) (fun c_102 => ?_) (fun c_102 => ?_)
                  · have c_102 : (mw g n (rs.2.1)) = 79329434 := k_cmp0 c_102
                    refine lv_iconst (v := 1) hx hb dX12_isKept_230 (by decide) ?_
                    refine lv_goto (tgt := 235) hx hb dX12_isKept_231 (by decide) ?_
                    have hE : (F_m_isKept g n rs) = 1 := by unfold F_m_isKept; rw [if_pos c_94, if_neg c_95, if_neg c_96, if_neg c_97, if_neg c_98, if_neg c_99, if_neg c_100, if_neg c_101, if_pos c_102]
                    have hw : kW γ A (mWz γ z z2 z10 z11 z12 z13 z14 z15 z16 z17 z18 z19 z22 z23 z24 z25 z26 z27 z28 z29 z30 z31 z32 z33 z36 z37 z38 z39 z40 z41 z42 z43 z44 z45 z46 z47 z48 z55 z56 z59 z60 z61 n0 n1 n49 n50 n51 n52 n53 n54 n57 n58 n62 n63 g n rs) s s.heap [] := by first | (rw [hE]; exact hw) | exact hw
                    exact k_zret hC hr hlocks rfl hw [0, 1] rfl rfl ⟨by rw [hE], rfl⟩ (by decide) (by decide) dX12_isKept_235
                  · have c_102 : ¬ (mw g n (rs.2.1)) = 79329434 := fun h9 => c_102 (by rw [h9]; exact k_cmp_self9 _)
                    refine lv_aload_n hx hb dX12_isKept_98 rfl (lv_at hl 0 rfl) ?_
                    refine fg_RX12_160 hC hw 0 rfl rfl dX12_isKept_99 ?_
                    refine k_ldc2 hC gw_1440 dX12_isKept_102 ?_
                    refine W.lcmp hx hb dX12_isKept_105 ?_
                    refine lv_if_eq (tgt := 230) hx hb dX12_isKept_106 (by decide) (fun c_103 => ?_) (fun c_103 => ?_)
                    · have c_103 : (mw g n (rs.2.1)) = 3746728 := k_cmp0 c_103
                      refine lv_iconst (v := 1) hx hb dX12_isKept_230 (by decide) ?_
                      refine lv_goto (tgt := 235) hx hb dX12_isKept_231 (by decide) ?_
                      have hE : (F_m_isKept g n rs) = 1 := by unfold F_m_isKept; rw [if_pos c_94, if_neg c_95, if_neg c_96, if_neg c_97, if_neg c_98, if_neg c_99, if_neg c_100, if_neg c_101, if_neg c_102, if_pos c_103]
                      have hw : kW γ A (mWz γ z z2 z10 z11 z12 z13 z14 z15 z16 z17 z18 z19 z22 z23 z24 z25 z26 z27 z28 z29 z30 z31 z32 z33 z36 z37 z38 z39 z40 z41 z42 z43 z44 z45 z46 z47 z48 z55 z56 z59 z60 z61 n0 n1 n49 n50 n51 n52 n53 n54 n57 n58 n62 n63 g n rs) s s.heap [] := by first | (rw [hE]; exact hw) | exact hw
                      exact k_zret hC hr hlocks rfl hw [0, 1] rfl rfl ⟨by rw [hE], rfl⟩ (by decide) (by decide) dX12_isKept_235
                    · have c_103 : ¬ (mw g n (rs.2.1)) = 3746728 := fun h9 => c_103 (by rw [h9]; exact k_cmp_self9 _)
                      refine lv_aload_n hx hb dX12_isKept_109 rfl (lv_at hl 0 rfl) ?_
                      refine fg_RX12_160 hC hw 0 rfl rfl dX12_isKept_110 ?_
                      refine k_ldc2 hC gw_1441 dX12_isKept_113 ?_
                      refine W.lcmp hx hb dX12_isKept_116 ?_
                      refine lv_if_eq (tgt := 230) hx hb dX12_isKept_117 (by decide) (fun c_104 => ?_) (fun c_104 => ?_)
                      · have c_104 : (mw g n (rs.2.1)) = 40187 := k_cmp0 c_104
                        refine lv_iconst (v := 1) hx hb dX12_isKept_230 (by decide) ?_
                        refine lv_goto (tgt := 235) hx hb dX12_isKept_231 (by decide) ?_
                        have hE : (F_m_isKept g n rs) = 1 := by unfold F_m_isKept; rw [if_pos c_94, if_neg c_95, if_neg c_96, if_neg c_97, if_neg c_98, if_neg c_99, if_neg c_100, if_neg c_101, if_neg c_102, if_neg c_103, if_pos c_104]
                        have hw : kW γ A (mWz γ z z2 z10 z11 z12 z13 z14 z15 z16 z17 z18 z19 z22 z23 z24 z25 z26 z27 z28 z29 z30 z31 z32 z33 z36 z37 z38 z39 z40 z41 z42 z43 z44 z45 z46 z47 z48 z55 z56 z59 z60 z61 n0 n1 n49 n50 n51 n52 n53 n54 n57 n58 n62 n63 g n rs) s s.heap [] := by first | (rw [hE]; exact hw) | exact hw
                        exact k_zret hC hr hlocks rfl hw [0, 1] rfl rfl ⟨by rw [hE], rfl⟩ (by decide) (by decide) dX12_isKept_235
                      · have c_104 : ¬ (mw g n (rs.2.1)) = 40187 := fun h9 => c_104 (by rw [h9]; exact k_cmp_self9 _)
                        refine lv_aload_n hx hb dX12_isKept_120 rfl (lv_at hl 0 rfl) ?_
                        refine fg_RX12_160 hC hw 0 rfl rfl dX12_isKept_121 ?_
                        refine k_ldc2 hC gw_1442 dX12_isKept_124 ?_
                        refine W.lcmp hx hb dX12_isKept_127 ?_
                        refine lv_if_eq (tgt := 230) hx hb dX12_isKept_128 (by decide) (fun c_105 => ?_) (fun c_105 => ?_)
                        · have c_105 : (mw g n (rs.2.1)) = 10793234 := k_cmp0 c_105
                          refine lv_iconst (v := 1) hx hb dX12_isKept_230 (by decide) ?_
                          refine lv_goto (tgt := 235) hx hb dX12_isKept_231 (by decide) ?_
                          have hE : (F_m_isKept g n rs) = 1 := by unfold F_m_isKept; rw [if_pos c_94, if_neg c_95, if_neg c_96, if_neg c_97, if_neg c_98, if_neg c_99, if_neg c_100, if_neg c_101, if_neg c_102, if_neg c_103, if_neg c_104, if_pos c_105]
                          have hw : kW γ A (mWz γ z z2 z10 z11 z12 z13 z14 z15 z16 z17 z18 z19 z22 z23 z24 z25 z26 z27 z28 z29 z30 z31 z32 z33 z36 z37 z38 z39 z40 z41 z42 z43 z44 z45 z46 z47 z48 z55 z56 z59 z60 z61 n0 n1 n49 n50 n51 n52 n53 n54 n57 n58 n62 n63 g n rs) s s.heap [] := by first | (rw [hE]; exact hw) | exact hw
                          exact k_zret hC hr hlocks rfl hw [0, 1] rfl rfl ⟨by rw [hE], rfl⟩ (by decide) (by decide) dX12_isKept_235
                        · have c_105 : ¬ (mw g n (rs.2.1)) = 10793234 := fun h9 => c_105 (by rw [h9]; exact k_cmp_self9 _)
                          refine lv_aload_n hx hb dX12_isKept_131 rfl (lv_at hl 0 rfl) ?_
                          refine fg_RX12_160 hC hw 0 rfl rfl dX12_isKept_132 ?_
                          refine k_ldc2 hC gw_1443 dX12_isKept_135 ?_
                          refine W.lcmp hx hb dX12_isKept_138 ?_
                          refine lv_if_eq (tgt := 230) hx hb dX12_isKept_139 (by decide) (fun c_106 => ?_) (fun c_106 => ?_)
                          · have c_106 : (mw g n (rs.2.1)) = 139055 := k_cmp0 c_106
                            refine lv_iconst (v := 1) hx hb dX12_isKept_230 (by decide) ?_
                            refine lv_goto (tgt := 235) hx hb dX12_isKept_231 (by decide) ?_
                            have hE : (F_m_isKept g n rs) = 1 := by unfold F_m_isKept; rw [if_pos c_94, if_neg c_95, if_neg c_96, if_neg c_97, if_neg c_98, if_neg c_99, if_neg c_100, if_neg c_101, if_neg c_102, if_neg c_103, if_neg c_104, if_neg c_105, if_pos c_106]
                            have hw : kW γ A (mWz γ z z2 z10 z11 z12 z13 z14 z15 z16 z17 z18 z19 z22 z23 z24 z25 z26 z27 z28 z29 z30 z31 z32 z33 z36 z37 z38 z39 z40 z41 z42 z43 z44 z45 z46 z47 z48 z55 z56 z59 z60 z61 n0 n1 n49 n50 n51 n52 n53 n54 n57 n58 n62 n63 g n rs) s s.heap [] := by first | (rw [hE]; exact hw) | exact hw
                            exact k_zret hC hr hlocks rfl hw [0, 1] rfl rfl ⟨by rw [hE], rfl⟩ (by decide) (by decide) dX12_isKept_235
                          · have c_106 : ¬ (mw g n (rs.2.1)) = 139055 := fun h9 => c_106 (by rw [h9]; exact k_cmp_self9 _)
                            refine lv_aload_n hx hb dX12_isKept_142 rfl (lv_at hl 0 rfl) ?_
                            refine fg_RX12_160 hC hw 0 rfl rfl dX12_isKept_143 ?_
                            refine k_ldc2 hC gw_1444 dX12_isKept_146 ?_
                            refine W.lcmp hx hb dX12_isKept_149 ?_
                            refine lv_if_eq (tgt := 230) hx hb dX12_isKept_150 (by decide) (fun c_107 => ?_) (fun c_107 => ?_)
                            · have c_107 : (mw g n (rs.2.1)) = 326280 := k_cmp0 c_107
                              refine lv_iconst (v := 1) hx hb dX12_isKept_230 (by decide) ?_
                              refine lv_goto (tgt := 235) hx hb dX12_isKept_231 (by decide) ?_
                              have hE : (F_m_isKept g n rs) = 1 := by unfold F_m_isKept; rw [if_pos c_94, if_neg c_95, if_neg c_96, if_neg c_97, if_neg c_98, if_neg c_99, if_neg c_100, if_neg c_101, if_neg c_102, if_neg c_103, if_neg c_104, if_neg c_105, if_neg c_106, if_pos c_107]
                              have hw : kW γ A (mWz γ z z2 z10 z11 z12 z13 z14 z15 z16 z17 z18 z19 z22 z23 z24 z25 z26 z27 z28 z29 z30 z31 z32 z33 z36 z37 z38 z39 z40 z41 z42 z43 z44 z45 z46 z47 z48 z55 z56 z59 z60 z61 n0 n1 n49 n50 n51 n52 n53 n54 n57 n58 n62 n63 g n rs) s s.heap [] := by first | (rw [hE]; exact hw) | exact hw
                              exact k_zret hC hr hlocks rfl hw [0, 1] rfl rfl ⟨by rw [hE], rfl⟩ (by decide) (by decide) dX12_isKept_235
                            · have c_107 : ¬ (mw g n (rs.2.1)) = 326280 := fun h9 => c_107 (by rw [h9]; exact k_cmp_self9 _)
                              refine lv_aload_n hx hb dX12_isKept_153 rfl (lv_at hl 0 rfl) ?_
                              refine fg_RX12_160 hC hw 0 rfl rfl dX12_isKept_154 ?_
                              refine k_ldc2 hC gw_1445 dX12_isKept_157 ?_
                              refine W.lcmp hx hb dX12_isKept_160 ?_
                              refine lv_if_eq (tgt := 230) hx hb dX12_isKept_161 (by decide) (fun c_108 => ?_) (fun c_108 => ?_)
                              · have c_108 : (mw g n (rs.2.1)) = 8740238 := k_cmp0 c_108
                                refine lv_iconst (v := 1) hx hb dX12_isKept_230 (by decide) ?_
                                refine lv_goto (tgt := 235) hx hb dX12_isKept_231 (by decide) ?_
                                have hE : (F_m_isKept g n rs) = 1 := by unfold F_m_isKept; rw [if_pos c_94, if_neg c_95, if_neg c_96, if_neg c_97, if_neg c_98, if_neg c_99, if_neg c_100, if_neg c_101, if_neg c_102, if_neg c_103, if_neg c_104, if_neg c_105, if_neg c_106, if_neg c_107, if_pos c_108]
                                have hw : kW γ A (mWz γ z z2 z10 z11 z12 z13 z14 z15 z16 z17 z18 z19 z22 z23 z24 z25 z26 z27 z28 z29 z30 z31 z32 z33 z36 z37 z38 z39 z40 z41 z42 z43 z44 z45 z46 z47 z48 z55 z56 z59 z60 z61 n0 n1 n49 n50 n51 n52 n53 n54 n57 n58 n62 n63 g n rs) s s.heap [] := by first | (rw [hE]; exact hw) | exact hw
                                exact k_zret hC hr hlocks rfl hw [0, 1] rfl rfl ⟨by rw [hE], rfl⟩ (by decide) (by decide) dX12_isKept_235
                              · have c_108 : ¬ (mw g n (rs.2.1)) = 8740238 := fun h9 => c_108 (by rw [h9]; exact k_cmp_self9 _)
                                refine lv_aload_n hx hb dX12_isKept_164 rfl (lv_at hl 0 rfl) ?_
                                refine fg_RX12_160 hC hw 0 rfl rfl dX12_isKept_165 ?_
                                refine k_ldc2 hC gw_1446 dX12_isKept_168 ?_
                                refine W.lcmp hx hb dX12_isKept_171 ?_
                                refine lv_if_eq (tgt := 230) hx hb dX12_isKept_172 (by decide) (fun c_109 => ?_) (fun c_109 => ?_)
                                · have c_109 : (mw g n (rs.2.1)) = 277680074 := k_cmp0 c_109
                                  refine lv_iconst (v := 1) hx hb dX12_isKept_230 (by decide) ?_
                                  refine lv_goto (tgt := 235) hx hb dX12_isKept_231 (by decide) ?_
                                  have hE : (F_m_isKept g n rs) = 1 := by unfold F_m_isKept; rw [if_pos c_94, if_neg c_95, if_neg c_96, if_neg c_97, if_neg c_98, if_neg c_99, if_neg c_100, if_neg c_101, if_neg c_102, if_neg c_103, if_neg c_104, if_neg c_105, if_neg c_106, if_neg c_107, if_neg c_108, if_pos c_109]
                                  have hw : kW γ A (mWz γ z z2 z10 z11 z12 z13 z14 z15 z16 z17 z18 z19 z22 z23 z24 z25 z26 z27 z28 z29 z30 z31 z32 z33 z36 z37 z38 z39 z40 z41 z42 z43 z44 z45 z46 z47 z48 z55 z56 z59 z60 z61 n0 n1 n49 n50 n51 n52 n53 n54 n57 n58 n62 n63 g n rs) s s.heap [] := by first | (rw [hE]; exact hw) | exact hw
                                  exact k_zret hC hr hlocks rfl hw [0, 1] rfl rfl ⟨by rw [hE], rfl⟩ (by decide) (by decide) dX12_isKept_235
                                · have c_109 : ¬ (mw g n (rs.2.1)) = 277680074 := fun h9 => c_109 (by rw [h9]; exact k_cmp_self9 _)
                                  refine lv_aload_n hx hb dX12_isKept_175 rfl (lv_at hl 0 rfl) ?_
                                  refine fg_RX12_160 hC hw 0 rfl rfl dX12_isKept_176 ?_
                                  refine k_ldc2 hC gw_1447 dX12_isKept_179 ?_
                                  refine W.lcmp hx hb dX12_isKept_182 ?_
                                  refine lv_if_eq (tgt := 230) hx hb dX12_isKept_183 (by decide) (fun c_110 => ?_) (fun c_110 => ?_)
                                  · have c_110 : (mw g n (rs.2.1)) = 49538619 := k_cmp0 c_110
                                    refine lv_iconst (v := 1) hx hb dX12_isKept_230 (by decide) ?_
                                    refine lv_goto (tgt := 235) hx hb dX12_isKept_231 (by decide) ?_
                                    have hE : (F_m_isKept g n rs) = 1 := by unfold F_m_isKept; rw [if_pos c_94, if_neg c_95, if_neg c_96, if_neg c_97, if_neg c_98, if_neg c_99, if_neg c_100, if_neg c_101, if_neg c_102, if_neg c_103, if_neg c_104, if_neg c_105, if_neg c_106, if_neg c_107, if_neg c_108, if_neg c_109, if_pos c_110]
                                    have hw : kW γ A (mWz γ z z2 z10 z11 z12 z13 z14 z15 z16 z17 z18 z19 z22 z23 z24 z25 z26 z27 z28 z29 z30 z31 z32 z33 z36 z37 z38 z39 z40 z41 z42 z43 z44 z45 z46 z47 z48 z55 z56 z59 z60 z61 n0 n1 n49 n50 n51 n52 n53 n54 n57 n58 n62 n63 g n rs) s s.heap [] := by first | (rw [hE]; exact hw) | exact hw
                                    exact k_zret hC hr hlocks rfl hw [0, 1] rfl rfl ⟨by rw [hE], rfl⟩ (by decide) (by decide) dX12_isKept_235
                                  · have c_110 : ¬ (mw g n (rs.2.1)) = 49538619 := fun h9 => c_110 (by rw [h9]; exact k_cmp_self9 _)
                                    refine lv_aload_n hx hb dX12_isKept_186 rfl (lv_at hl 0 rfl) ?_
                                    refine fg_RX12_160 hC hw 0 rfl rfl dX12_isKept_187 ?_
                                    refine k_ldc2 hC gw_1448 dX12_isKept_190 ?_
                                    refine W.lcmp hx hb dX12_isKept_193 ?_
                                    refine lv_if_eq (tgt := 230) hx hb dX12_isKept_194 (by decide) (fun c_111 => ?_) (fun c_111 => ?_)
                                    · have c_111 : (mw g n (rs.2.1)) = 269726508 := k_cmp0 c_111
                                      refine lv_iconst (v := 1) hx hb dX12_isKept_230 (by decide) ?_
                                      refine lv_goto (tgt := 235) hx hb dX12_isKept_231 (by decide) ?_
                                      have hE : (F_m_isKept g n rs) = 1 := by unfold F_m_isKept; rw [if_pos c_94, if_neg c_95, if_neg c_96, if_neg c_97, if_neg c_98, if_neg c_99, if_neg c_100, if_neg c_101, if_neg c_102, if_neg c_103, if_neg c_104, if_neg c_105, if_neg c_106, if_neg c_107, if_neg c_108, if_neg c_109, if_neg c_110, if_pos c_111]
                                      have hw : kW γ A (mWz γ z z2 z10 z11 z12 z13 z14 z15 z16 z17 z18 z19 z22 z23 z24 z25 z26 z27 z28 z29 z30 z31 z32 z33 z36 z37 z38 z39 z40 z41 z42 z43 z44 z45 z46 z47 z48 z55 z56 z59 z60 z61 n0 n1 n49 n50 n51 n52 n53 n54 n57 n58 n62 n63 g n rs) s s.heap [] := by first | (rw [hE]; exact hw) | exact hw
                                      exact k_zret hC hr hlocks rfl hw [0, 1] rfl rfl ⟨by rw [hE], rfl⟩ (by decide) (by decide) dX12_isKept_235
                                    · have c_111 : ¬ (mw g n (rs.2.1)) = 269726508 := fun h9 => c_111 (by rw [h9]; exact k_cmp_self9 _)
                                      refine lv_aload_n hx hb dX12_isKept_197 rfl (lv_at hl 0 rfl) ?_
                                      refine fg_RX12_160 hC hw 0 rfl rfl dX12_isKept_198 ?_
                                      refine k_ldc2 hC gw_1449 dX12_isKept_201 ?_
                                      refine W.lcmp hx hb dX12_isKept_204 ?_
                                      refine lv_if_eq (tgt := 230) hx hb dX12_isKept_205 (by decide) (fun c_112 => ?_) (fun c_112 => ?_)
                                      · have c_112 : (mw g n (rs.2.1)) = 10631 := k_cmp0 c_112
                                        refine lv_iconst (v := 1) hx hb dX12_isKept_230 (by decide) ?_
                                        refine lv_goto (tgt := 235) hx hb dX12_isKept_231 (by decide) ?_
                                        have hE : (F_m_isKept g n rs) = 1 := by unfold F_m_isKept; rw [if_pos c_94, if_neg c_95, if_neg c_96, if_neg c_97, if_neg c_98, if_neg c_99, if_neg c_100, if_neg c_101, if_neg c_102, if_neg c_103, if_neg c_104, if_neg c_105, if_neg c_106, if_neg c_107, if_neg c_108, if_neg c_109, if_neg c_110, if_neg c_111, if_pos c_112]
                                        have hw : kW γ A (mWz γ z z2 z10 z11 z12 z13 z14 z15 z16 z17 z18 z19 z22 z23 z24 z25 z26 z27 z28 z29 z30 z31 z32 z33 z36 z37 z38 z39 z40 z41 z42 z43 z44 z45 z46 z47 z48 z55 z56 z59 z60 z61 n0 n1 n49 n50 n51 n52 n53 n54 n57 n58 n62 n63 g n rs) s s.heap [] := by first | (rw [hE]; exact hw) | exact hw
                                        exact k_zret hC hr hlocks rfl hw [0, 1] rfl rfl ⟨by rw [hE], rfl⟩ (by decide) (by decide) dX12_isKept_235
                                      · have c_112 : ¬ (mw g n (rs.2.1)) = 10631 := fun h9 => c_112 (by rw [h9]; exact k_cmp_self9 _)
                                        refine lv_aload_n hx hb dX12_isKept_208 rfl (lv_at hl 0 rfl) ?_
                                        refine fg_RX12_160 hC hw 0 rfl rfl dX12_isKept_209 ?_
                                        refine k_ldc2 hC gw_1450 dX12_isKept_212 ?_
                                        refine W.lcmp hx hb dX12_isKept_215 ?_
                                        refine lv_if_eq (tgt := 230) hx hb dX12_isKept_216 (by decide) (fun c_113 => ?_) (fun c_113 => ?_)
                                        · have c_113 : (mw g n (rs.2.1)) = 1111 := k_cmp0 c_113
                                          refine lv_iconst (v := 1) hx hb dX12_isKept_230 (by decide) ?_
                                          refine lv_goto (tgt := 235) hx hb dX12_isKept_231 (by decide) ?_
                                          have hE : (F_m_isKept g n rs) = 1 := by unfold F_m_isKept; rw [if_pos c_94, if_neg c_95, if_neg c_96, if_neg c_97, if_neg c_98, if_neg c_99, if_neg c_100, if_neg c_101, if_neg c_102, if_neg c_103, if_neg c_104, if_neg c_105, if_neg c_106, if_neg c_107, if_neg c_108, if_neg c_109, if_neg c_110, if_neg c_111, if_neg c_112, if_pos c_113]
                                          have hw : kW γ A (mWz γ z z2 z10 z11 z12 z13 z14 z15 z16 z17 z18 z19 z22 z23 z24 z25 z26 z27 z28 z29 z30 z31 z32 z33 z36 z37 z38 z39 z40 z41 z42 z43 z44 z45 z46 z47 z48 z55 z56 z59 z60 z61 n0 n1 n49 n50 n51 n52 n53 n54 n57 n58 n62 n63 g n rs) s s.heap [] := by first | (rw [hE]; exact hw) | exact hw
                                          exact k_zret hC hr hlocks rfl hw [0, 1] rfl rfl ⟨by rw [hE], rfl⟩ (by decide) (by decide) dX12_isKept_235
                                        · have c_113 : ¬ (mw g n (rs.2.1)) = 1111 := fun h9 => c_113 (by rw [h9]; exact k_cmp_self9 _)
                                          refine lv_aload_n hx hb dX12_isKept_219 rfl (lv_at hl 0 rfl) ?_
                                          refine fg_RX12_160 hC hw 0 rfl rfl dX12_isKept_220 ?_
                                          refine k_ldc2 hC gw_1451 dX12_isKept_223 ?_
                                          refine W.lcmp hx hb dX12_isKept_226 ?_
                                          refine lv_if_ne (tgt := 234) hx hb dX12_isKept_227 (by decide) (fun c_114 => ?_) (fun c_114 => ?_)
                                          · have c_114 : ¬ (mw g n (rs.2.1)) = 423 := fun h9 => c_114 (by rw [h9]; exact k_cmp_self9 _)
                                            refine lv_iconst (v := 0) hx hb dX12_isKept_234 (by decide) ?_
                                            have hE : (F_m_isKept g n rs) = 0 := by unfold F_m_isKept; rw [if_pos c_94, if_neg c_95, if_neg c_96, if_neg c_97, if_neg c_98, if_neg c_99, if_neg c_100, if_neg c_101, if_neg c_102, if_neg c_103, if_neg c_104, if_neg c_105, if_neg c_106, if_neg c_107, if_neg c_108, if_neg c_109, if_neg c_110, if_neg c_111, if_neg c_112, if_neg c_113, if_neg c_114]
                                            have hw : kW γ A (mWz γ z z2 z10 z11 z12 z13 z14 z15 z16 z17 z18 z19 z22 z23 z24 z25 z26 z27 z28 z29 z30 z31 z32 z33 z36 z37 z38 z39 z40 z41 z42 z43 z44 z45 z46 z47 z48 z55 z56 z59 z60 z61 n0 n1 n49 n50 n51 n52 n53 n54 n57 n58 n62 n63 g n rs) s s.heap [] := by first | (rw [hE]; exact hw) | exact hw
                                            exact k_zret hC hr hlocks rfl hw [0, 1] rfl rfl ⟨by rw [hE], rfl⟩ (by decide) (by decide) dX12_isKept_235
                                          · have c_114 : (mw g n (rs.2.1)) = 423 := k_cmp0 c_114
                                            refine lv_iconst (v := 1) hx hb dX12_isKept_230 (by decide) ?_
                                            refine lv_goto (tgt := 235) hx hb dX12_isKept_231 (by decide) ?_
                                            have hE : (F_m_isKept g n rs) = 1 := by unfold F_m_isKept; rw [if_pos c_94, if_neg c_95, if_neg c_96, if_neg c_97, if_neg c_98, if_neg c_99, if_neg c_100, if_neg c_101, if_neg c_102, if_neg c_103, if_neg c_104, if_neg c_105, if_neg c_106, if_neg c_107, if_neg c_108, if_neg c_109, if_neg c_110, if_neg c_111, if_neg c_112, if_neg c_113, if_pos c_114]
                                            have hw : kW γ A (mWz γ z z2 z10 z11 z12 z13 z14 z15 z16 z17 z18 z19 z22 z23 z24 z25 z26 z27 z28 z29 z30 z31 z32 z33 z36 z37 z38 z39 z40 z41 z42 z43 z44 z45 z46 z47 z48 z55 z56 z59 z60 z61 n0 n1 n49 n50 n51 n52 n53 n54 n57 n58 n62 n63 g n rs) s s.heap [] := by first | (rw [hE]; exact hw) | exact hw
                                            exact k_zret hC hr hlocks rfl hw [0, 1] rfl rfl ⟨by rw [hE], rfl⟩ (by decide) (by decide) dX12_isKept_235
  · refine lv_iconst (v := 1) hx hb dX12_isKept_8 (by decide) ?_
    have hE : (F_m_isKept g n rs) = 1 := by unfold F_m_isKept; rw [if_neg c_94]
    have hw : kW γ A (mWz γ z z2 z10 z11 z12 z13 z14 z15 z16 z17 z18 z19 z22 z23 z24 z25 z26 z27 z28 z29 z30 z31 z32 z33 z36 z37 z38 z39 z40 z41 z42 z43 z44 z45 z46 z47 z48 z55 z56 z59 z60 z61 n0 n1 n49 n50 n51 n52 n53 n54 n57 n58 n62 n63 g n rs) s s.heap [] := by first | (rw [hE]; exact hw) | exact hw
    exact k_zret hC hr hlocks rfl hw [0, 1] rfl rfl ⟨by rw [hE], rfl⟩ (by decide) (by decide) dX12_isKept_9

def F_m_within (x : Int32) (lo : Int32) (hi : Int32) : Int32 :=
  if x < lo then 0 else (if hi < x then 0 else 1)
set_option maxHeartbeats 4000000 in
set_option maxRecDepth 100000 in
theorem c_m_within (γ : kΓ) (l : Launch) (x : Int32) (lo : Int32) (hi : Int32) : kM γ l yX12_within cX12_within 3 ((some .boolean)) ({ frames := 0, cells := 0, slots := 0, locals := 0 } : Room) [.int x, .int lo, .int hi] [] (fun r w1 => r = some (.int (F_m_within x lo hi)) ∧ w1 = []) := by
  refine k_ofW (by decide) (Nat.le_of_ble_eq_true rfl) ?_
  intro p9 e s m below meth c A ls hC hr hlocks hname hw hl
  have hx := hC.1
  have hb := hC.2.1
  have hl : lv_has ls 3 [(0, .int x), (1, .int lo), (2, .int hi)] := hl
  refine lv_iload_n hx hb dX12_within_0 rfl (lv_at hl 0 rfl) ?_
  refine lv_iload_n hx hb dX12_within_1 rfl (lv_at hl 1 rfl) ?_
  refine lv_icmp_lt (tgt := 14) hx hb dX12_within_2 (by decide) (fun c_117 => ?_) (fun c_117 => ?_)
  · refine lv_iconst (v := 0) hx hb dX12_within_14 (by decide) ?_
    have hE : (F_m_within x lo hi) = 0 := by unfold F_m_within; rw [if_pos c_117]
    have hw : kW γ A [] s s.heap [] := by first | (rw [hE]; exact hw) | exact hw
    exact k_zret hC hr hlocks rfl hw [] rfl rfl ⟨by rw [hE], rfl⟩ (by decide) (by decide) dX12_within_15
  · refine lv_iload_n hx hb dX12_within_5 rfl (lv_at hl 0 rfl) ?_
    refine lv_iload_n hx hb dX12_within_6 rfl (lv_at hl 2 rfl) ?_
    refine lv_icmp_gt (tgt := 14) hx hb dX12_within_7 (by decide) (fun c_118 => ?_) (fun c_118 => ?_)
    · refine lv_iconst (v := 0) hx hb dX12_within_14 (by decide) ?_
      have hE : (F_m_within x lo hi) = 0 := by unfold F_m_within; rw [if_neg c_117, if_pos c_118]
      have hw : kW γ A [] s s.heap [] := by first | (rw [hE]; exact hw) | exact hw
      exact k_zret hC hr hlocks rfl hw [] rfl rfl ⟨by rw [hE], rfl⟩ (by decide) (by decide) dX12_within_15
    · refine lv_iconst (v := 1) hx hb dX12_within_10 (by decide) ?_
      refine lv_goto (tgt := 15) hx hb dX12_within_11 (by decide) ?_
      have hE : (F_m_within x lo hi) = 1 := by unfold F_m_within; rw [if_neg c_117, if_neg c_118]
      have hw : kW γ A [] s s.heap [] := by first | (rw [hE]; exact hw) | exact hw
      exact k_zret hC hr hlocks rfl hw [] rfl rfl ⟨by rw [hE], rfl⟩ (by decide) (by decide) dX12_within_15

def F_m_needsNumber (g : Nat → Int32) (n : Nat) (rs : mRS) (lo : Int32) (hi : Int32) : Int32 × mRS :=
  if (mk g n (rs.2.1)) = 2 then (if (F_m_within (mt g n (rs.2.1)) lo hi) = 0 then (0, (F_m_fails g n rs 4)) else (1, (mv g n ((rs.1), (rs.2.1), (mt g n (rs.2.1)), (rs.2.2.2.1), (rs.2.2.2.2.1), (rs.2.2.2.2.2))))) else (0, (F_m_fails g n rs 1))
set_option maxHeartbeats 4000000 in
set_option maxRecDepth 100000 in
theorem c_m_needsNumber (γ : kΓ) (l : Launch) (z : Nat) (z2 : Nat) (z10 : Nat) (z11 : Nat) (z12 : Nat) (z13 : Nat) (z14 : Nat) (z15 : Nat) (z16 : Nat) (z17 : Nat) (z18 : Nat) (z19 : Nat) (z22 : Nat) (z23 : Nat) (z24 : Nat) (z25 : Nat) (z26 : Nat) (z27 : Nat) (z28 : Nat) (z29 : Nat) (z30 : Nat) (z31 : Nat) (z32 : Nat) (z33 : Nat) (z36 : Nat) (z37 : Nat) (z38 : Nat) (z39 : Nat) (z40 : Nat) (z41 : Nat) (z42 : Nat) (z43 : Nat) (z44 : Nat) (z45 : Nat) (z46 : Nat) (z47 : Nat) (z48 : Nat) (z55 : Nat) (z56 : Nat) (z59 : Nat) (z60 : Nat) (z61 : Nat) (n0 : Int32) (n1 : Int32) (n49 : Int32) (n50 : Int32) (n51 : Int32) (n52 : Int32) (n53 : Int32) (n54 : Int32) (n57 : Int32) (n58 : Int32) (n62 : Int32) (n63 : Int64) (n : Nat) (g : Nat → Int32) (rs : mRS) (lo : Int32) (hi : Int32) (hn : n ≤ 1000) : kM γ l yX12_needsNumber cX12_needsNumber 3 ((some .boolean)) ({ frames := 2, cells := 0, slots := 0, locals := 61 } : Room) [.ref z, .int lo, .int hi] (mWz γ z z2 z10 z11 z12 z13 z14 z15 z16 z17 z18 z19 z22 z23 z24 z25 z26 z27 z28 z29 z30 z31 z32 z33 z36 z37 z38 z39 z40 z41 z42 z43 z44 z45 z46 z47 z48 z55 z56 z59 z60 z61 n0 n1 n49 n50 n51 n52 n53 n54 n57 n58 n62 n63 g n rs) (fun r w1 => r = some (.int ((F_m_needsNumber g n rs lo hi).1)) ∧ w1 = (mWz γ z z2 z10 z11 z12 z13 z14 z15 z16 z17 z18 z19 z22 z23 z24 z25 z26 z27 z28 z29 z30 z31 z32 z33 z36 z37 z38 z39 z40 z41 z42 z43 z44 z45 z46 z47 z48 z55 z56 z59 z60 z61 n0 n1 n49 n50 n51 n52 n53 n54 n57 n58 n62 n63 g n ((F_m_needsNumber g n rs lo hi).2))) := by
  refine k_ofW (by decide) (Nat.le_of_ble_eq_true rfl) ?_
  intro p9 e s m below meth c A ls hC hr hlocks hname hw hl
  have hx := hC.1
  have hb := hC.2.1
  have hl : lv_has ls 3 [(0, .ref z), (1, .int lo), (2, .int hi)] := hl
  refine lv_aload_n hx hb dX12_needsNumber_0 rfl (lv_at hl 0 rfl) ?_
  refine fg_RX12_167 hC hw 0 rfl rfl dX12_needsNumber_1 ?_
  refine lv_iconst (v := 2) hx hb dX12_needsNumber_4 (by decide) ?_
  refine lv_icmp_eq (tgt := 14) hx hb dX12_needsNumber_5 (by decide) (fun c_121 => ?_) (fun c_121 => ?_)
  · refine lv_aload_n hx hb dX12_needsNumber_14 rfl (lv_at hl 0 rfl) ?_
    refine fg_RX12_164 hC hw 0 rfl rfl dX12_needsNumber_15 ?_
    refine lv_iload_n hx hb dX12_needsNumber_18 rfl (lv_at hl 1 rfl) ?_
    refine lv_iload_n hx hb dX12_needsNumber_19 rfl (lv_at hl 2 rfl) ?_
    refine k_S (wr := (mWz γ z z2 z10 z11 z12 z13 z14 z15 z16 z17 z18 z19 z22 z23 z24 z25 z26 z27 z28 z29 z30 z31 z32 z33 z36 z37 z38 z39 z40 z41 z42 z43 z44 z45 z46 z47 z48 z55 z56 z59 z60 z61 n0 n1 n49 n50 n51 n52 n53 n54 n57 n58 n62 n63 g n rs)) 3 gw_1468 gw_1469 gw_15 gw_1470 hd_X12_within hC hw (c_m_within γ l (mt g n (rs.2.1)) lo hi) ⟨by decide, by decide⟩ ⟨by decide, by decide⟩ hl.1 rfl rfl (Nat.le_of_ble_eq_true rfl) [] [0, 1] rfl rfl rfl rfl (by decide) dX12_needsNumber_20 (fun r w1 H locs hq hw => ?_)
    obtain ⟨rfl, rfl⟩ := hq
    have hw : kW γ A (mWz γ z z2 z10 z11 z12 z13 z14 z15 z16 z17 z18 z19 z22 z23 z24 z25 z26 z27 z28 z29 z30 z31 z32 z33 z36 z37 z38 z39 z40 z41 z42 z43 z44 z45 z46 z47 z48 z55 z56 z59 z60 z61 n0 n1 n49 n50 n51 n52 n53 n54 n57 n58 n62 n63 g n rs) s H locs := hw
    refine W.eq (g2 := F0 m 23 ls [.int (F_m_within (mt g n (rs.2.1)) lo hi)]) rfl ?_
    refine lv_if_ne (tgt := 32) hx hb dX12_needsNumber_23 (by decide) (fun c_122 => ?_) (fun c_122 => ?_)
    · refine lv_aload_n hx hb dX12_needsNumber_32 rfl (lv_at hl 0 rfl) ?_
      refine lv_aload_n hx hb dX12_needsNumber_33 rfl (lv_at hl 0 rfl) ?_
      refine fg_RX12_164 hC hw 0 rfl rfl dX12_needsNumber_34 ?_
      refine fs_RX12_266 hC hw 0 rfl rfl rfl (Nat.le_of_ble_eq_true rfl) dX12_needsNumber_37 (fun H locs hw => ?_)
      have hw : kW γ A (mWz γ z z2 z10 z11 z12 z13 z14 z15 z16 z17 z18 z19 z22 z23 z24 z25 z26 z27 z28 z29 z30 z31 z32 z33 z36 z37 z38 z39 z40 z41 z42 z43 z44 z45 z46 z47 z48 z55 z56 z59 z60 z61 n0 n1 n49 n50 n51 n52 n53 n54 n57 n58 n62 n63 g n ((rs.1), (rs.2.1), (mt g n (rs.2.1)), (rs.2.2.2.1), (rs.2.2.2.2.1), (rs.2.2.2.2.2))) s H locs := hw
      refine lv_aload_n hx hb dX12_needsNumber_40 rfl (lv_at hl 0 rfl) ?_
      refine k_V (wr := []) 0 gw_1402 gw_1404 gp_54 gw_15 gw_1405 hd_X12_nextToken hC hw (c_mv γ l z z2 z10 z11 z12 z13 z14 z15 z16 z17 z18 z19 z22 z23 z24 z25 z26 z27 z28 z29 z30 z31 z32 z33 z36 z37 z38 z39 z40 z41 z42 z43 z44 z45 z46 z47 z48 z55 z56 z59 z60 z61 n0 n1 n49 n50 n51 n52 n53 n54 n57 n58 n62 n63 n g ((rs.1), (rs.2.1), (mt g n (rs.2.1)), (rs.2.2.2.1), (rs.2.2.2.2.1), (rs.2.2.2.2.2)) hn) ⟨by decide, by decide⟩ ⟨by decide, by decide⟩ hl.1 rfl 0 rfl rfl rfl (Nat.le_of_ble_eq_true rfl) [0, 1] [] rfl rfl rfl rfl (by decide) dX12_needsNumber_41 (fun r w1 H locs hq hw => ?_)
      obtain ⟨rfl, rfl⟩ := hq
      have hw : kW γ A (mWz γ z z2 z10 z11 z12 z13 z14 z15 z16 z17 z18 z19 z22 z23 z24 z25 z26 z27 z28 z29 z30 z31 z32 z33 z36 z37 z38 z39 z40 z41 z42 z43 z44 z45 z46 z47 z48 z55 z56 z59 z60 z61 n0 n1 n49 n50 n51 n52 n53 n54 n57 n58 n62 n63 g n (mv g n ((rs.1), (rs.2.1), (mt g n (rs.2.1)), (rs.2.2.2.1), (rs.2.2.2.2.1), (rs.2.2.2.2.2)))) s H locs := hw
      refine W.eq (g2 := F0 m 44 ls []) rfl ?_
      refine lv_iconst (v := 1) hx hb dX12_needsNumber_44 (by decide) ?_
      have hE : (F_m_needsNumber g n rs lo hi) = (1, (mv g n ((rs.1), (rs.2.1), (mt g n (rs.2.1)), (rs.2.2.2.1), (rs.2.2.2.2.1), (rs.2.2.2.2.2)))) := by unfold F_m_needsNumber; rw [if_pos c_121, if_neg c_122]
      have hw : kW γ A (mWz γ z z2 z10 z11 z12 z13 z14 z15 z16 z17 z18 z19 z22 z23 z24 z25 z26 z27 z28 z29 z30 z31 z32 z33 z36 z37 z38 z39 z40 z41 z42 z43 z44 z45 z46 z47 z48 z55 z56 z59 z60 z61 n0 n1 n49 n50 n51 n52 n53 n54 n57 n58 n62 n63 g n ((F_m_needsNumber g n rs lo hi).2)) s H locs := by first | (rw [hE]; exact hw) | exact hw
      exact k_zret hC hr hlocks rfl hw [0, 1] rfl rfl ⟨by rw [hE], rfl⟩ (by decide) (by decide) dX12_needsNumber_45
    · refine lv_aload_n hx hb dX12_needsNumber_26 rfl (lv_at hl 0 rfl) ?_
      refine lv_iconst (v := 4) hx hb dX12_needsNumber_27 (by decide) ?_
      refine k_V (wr := []) 1 gw_1421 gw_1423 gp_58 gw_15 gw_1424 hd_X12_fails hC hw (c_m_fails γ l z z2 z10 z11 z12 z13 z14 z15 z16 z17 z18 z19 z22 z23 z24 z25 z26 z27 z28 z29 z30 z31 z32 z33 z36 z37 z38 z39 z40 z41 z42 z43 z44 z45 z46 z47 z48 z55 z56 z59 z60 z61 n0 n1 n49 n50 n51 n52 n53 n54 n57 n58 n62 n63 n g rs 4 hn) ⟨by decide, by decide⟩ ⟨by decide, by decide⟩ hl.1 rfl 0 rfl rfl rfl (Nat.le_of_ble_eq_true rfl) [0, 1] [] rfl rfl rfl rfl (by decide) dX12_needsNumber_28 (fun r w1 H locs hq hw => ?_)
      obtain ⟨rfl, rfl⟩ := hq
      have hw : kW γ A (mWz γ z z2 z10 z11 z12 z13 z14 z15 z16 z17 z18 z19 z22 z23 z24 z25 z26 z27 z28 z29 z30 z31 z32 z33 z36 z37 z38 z39 z40 z41 z42 z43 z44 z45 z46 z47 z48 z55 z56 z59 z60 z61 n0 n1 n49 n50 n51 n52 n53 n54 n57 n58 n62 n63 g n (F_m_fails g n rs 4)) s H locs := hw
      refine W.eq (g2 := F0 m 31 ls [.int 0]) rfl ?_
      have hE : (F_m_needsNumber g n rs lo hi) = (0, (F_m_fails g n rs 4)) := by unfold F_m_needsNumber; rw [if_pos c_121, if_pos c_122]
      have hw : kW γ A (mWz γ z z2 z10 z11 z12 z13 z14 z15 z16 z17 z18 z19 z22 z23 z24 z25 z26 z27 z28 z29 z30 z31 z32 z33 z36 z37 z38 z39 z40 z41 z42 z43 z44 z45 z46 z47 z48 z55 z56 z59 z60 z61 n0 n1 n49 n50 n51 n52 n53 n54 n57 n58 n62 n63 g n ((F_m_needsNumber g n rs lo hi).2)) s H locs := by first | (rw [hE]; exact hw) | exact hw
      exact k_zret hC hr hlocks rfl hw [0, 1] rfl rfl ⟨by rw [hE], rfl⟩ (by decide) (by decide) dX12_needsNumber_31
  · refine lv_aload_n hx hb dX12_needsNumber_8 rfl (lv_at hl 0 rfl) ?_
    refine lv_iconst (v := 1) hx hb dX12_needsNumber_9 (by decide) ?_
    refine k_V (wr := []) 1 gw_1421 gw_1423 gp_58 gw_15 gw_1424 hd_X12_fails hC hw (c_m_fails γ l z z2 z10 z11 z12 z13 z14 z15 z16 z17 z18 z19 z22 z23 z24 z25 z26 z27 z28 z29 z30 z31 z32 z33 z36 z37 z38 z39 z40 z41 z42 z43 z44 z45 z46 z47 z48 z55 z56 z59 z60 z61 n0 n1 n49 n50 n51 n52 n53 n54 n57 n58 n62 n63 n g rs 1 hn) ⟨by decide, by decide⟩ ⟨by decide, by decide⟩ hl.1 rfl 0 rfl rfl rfl (Nat.le_of_ble_eq_true rfl) [0, 1] [] rfl rfl rfl rfl (by decide) dX12_needsNumber_10 (fun r w1 H locs hq hw => ?_)
    obtain ⟨rfl, rfl⟩ := hq
    have hw : kW γ A (mWz γ z z2 z10 z11 z12 z13 z14 z15 z16 z17 z18 z19 z22 z23 z24 z25 z26 z27 z28 z29 z30 z31 z32 z33 z36 z37 z38 z39 z40 z41 z42 z43 z44 z45 z46 z47 z48 z55 z56 z59 z60 z61 n0 n1 n49 n50 n51 n52 n53 n54 n57 n58 n62 n63 g n (F_m_fails g n rs 1)) s H locs := hw
    refine W.eq (g2 := F0 m 13 ls [.int 0]) rfl ?_
    have hE : (F_m_needsNumber g n rs lo hi) = (0, (F_m_fails g n rs 1)) := by unfold F_m_needsNumber; rw [if_neg c_121]
    have hw : kW γ A (mWz γ z z2 z10 z11 z12 z13 z14 z15 z16 z17 z18 z19 z22 z23 z24 z25 z26 z27 z28 z29 z30 z31 z32 z33 z36 z37 z38 z39 z40 z41 z42 z43 z44 z45 z46 z47 z48 z55 z56 z59 z60 z61 n0 n1 n49 n50 n51 n52 n53 n54 n57 n58 n62 n63 g n ((F_m_needsNumber g n rs lo hi).2)) s H locs := by first | (rw [hE]; exact hw) | exact hw
    exact k_zret hC hr hlocks rfl hw [0, 1] rfl rfl ⟨by rw [hE], rfl⟩ (by decide) (by decide) dX12_needsNumber_13

theorem b_needsNumber {g : Nat → Int32} {n : Nat} {rs : mRS} {lo hi : Int32} : (F_m_needsNumber g n rs lo hi).1 = 0 ∨ (F_m_needsNumber g n rs lo hi).1 = 1 := by
  unfold F_m_needsNumber
  repeat' split
  all_goals first | exact .inl rfl | exact .inr rfl

def F_m_needsBoth (g : Nat → Int32) (n : Nat) (rs : mRS) (x : Int64) (lo : Int32) (hi : Int32) : Int32 × mRS :=
  if (F_m_isWord g n rs x) = 0 then (0, (F_m_fails g n rs 1)) else (((F_m_needsNumber g n (mv g n rs) lo hi).1), ((F_m_needsNumber g n (mv g n rs) lo hi).2))
set_option maxHeartbeats 4000000 in
set_option maxRecDepth 100000 in
theorem c_m_needsBoth (γ : kΓ) (l : Launch) (z : Nat) (z2 : Nat) (z10 : Nat) (z11 : Nat) (z12 : Nat) (z13 : Nat) (z14 : Nat) (z15 : Nat) (z16 : Nat) (z17 : Nat) (z18 : Nat) (z19 : Nat) (z22 : Nat) (z23 : Nat) (z24 : Nat) (z25 : Nat) (z26 : Nat) (z27 : Nat) (z28 : Nat) (z29 : Nat) (z30 : Nat) (z31 : Nat) (z32 : Nat) (z33 : Nat) (z36 : Nat) (z37 : Nat) (z38 : Nat) (z39 : Nat) (z40 : Nat) (z41 : Nat) (z42 : Nat) (z43 : Nat) (z44 : Nat) (z45 : Nat) (z46 : Nat) (z47 : Nat) (z48 : Nat) (z55 : Nat) (z56 : Nat) (z59 : Nat) (z60 : Nat) (z61 : Nat) (n0 : Int32) (n1 : Int32) (n49 : Int32) (n50 : Int32) (n51 : Int32) (n52 : Int32) (n53 : Int32) (n54 : Int32) (n57 : Int32) (n58 : Int32) (n62 : Int32) (n63 : Int64) (n : Nat) (g : Nat → Int32) (rs : mRS) (x : Int64) (lo : Int32) (hi : Int32) (hn : n ≤ 1000) : kM γ l yX12_needsBoth cX12_needsBoth 5 ((some .boolean)) ({ frames := 3, cells := 0, slots := 0, locals := 83 } : Room) [.ref z, .long x, .int lo, .int hi] (mWz γ z z2 z10 z11 z12 z13 z14 z15 z16 z17 z18 z19 z22 z23 z24 z25 z26 z27 z28 z29 z30 z31 z32 z33 z36 z37 z38 z39 z40 z41 z42 z43 z44 z45 z46 z47 z48 z55 z56 z59 z60 z61 n0 n1 n49 n50 n51 n52 n53 n54 n57 n58 n62 n63 g n rs) (fun r w1 => r = some (.int ((F_m_needsBoth g n rs x lo hi).1)) ∧ w1 = (mWz γ z z2 z10 z11 z12 z13 z14 z15 z16 z17 z18 z19 z22 z23 z24 z25 z26 z27 z28 z29 z30 z31 z32 z33 z36 z37 z38 z39 z40 z41 z42 z43 z44 z45 z46 z47 z48 z55 z56 z59 z60 z61 n0 n1 n49 n50 n51 n52 n53 n54 n57 n58 n62 n63 g n ((F_m_needsBoth g n rs x lo hi).2))) := by
  refine k_ofW (by decide) (Nat.le_of_ble_eq_true rfl) ?_
  intro p9 e s m below meth c A ls hC hr hlocks hname hw hl
  have hx := hC.1
  have hb := hC.2.1
  have hl : lv_has ls 5 [(0, .ref z), (1, .long x), (3, .int lo), (4, .int hi)] := hl
  refine lv_aload_n hx hb dX12_needsBoth_0 rfl (lv_at hl 0 rfl) ?_
  refine lv_lload_n hx hb dX12_needsBoth_1 rfl (lv_at hl 1 rfl) ?_
  refine k_V (wr := []) 1 gw_1413 gw_1415 gp_56 gw_15 gw_1416 hd_X12_isWord hC hw (c_m_isWord γ l z z2 z10 z11 z12 z13 z14 z15 z16 z17 z18 z19 z22 z23 z24 z25 z26 z27 z28 z29 z30 z31 z32 z33 z36 z37 z38 z39 z40 z41 z42 z43 z44 z45 z46 z47 z48 z55 z56 z59 z60 z61 n0 n1 n49 n50 n51 n52 n53 n54 n57 n58 n62 n63 n g rs x hn) ⟨by decide, by decide⟩ ⟨by decide, by decide⟩ hl.1 rfl 0 rfl rfl rfl (Nat.le_of_ble_eq_true rfl) [0, 1] [] rfl rfl rfl rfl (by decide) dX12_needsBoth_2 (fun r w1 H locs hq hw => ?_)
  obtain ⟨rfl, rfl⟩ := hq
  have hw : kW γ A (mWz γ z z2 z10 z11 z12 z13 z14 z15 z16 z17 z18 z19 z22 z23 z24 z25 z26 z27 z28 z29 z30 z31 z32 z33 z36 z37 z38 z39 z40 z41 z42 z43 z44 z45 z46 z47 z48 z55 z56 z59 z60 z61 n0 n1 n49 n50 n51 n52 n53 n54 n57 n58 n62 n63 g n rs) s H locs := hw
  refine W.eq (g2 := F0 m 5 ls [.int (F_m_isWord g n rs x)]) rfl ?_
  refine lv_if_ne (tgt := 14) hx hb dX12_needsBoth_5 (by decide) (fun c_124 => ?_) (fun c_124 => ?_)
  · refine lv_aload_n hx hb dX12_needsBoth_14 rfl (lv_at hl 0 rfl) ?_
    refine k_V (wr := []) 0 gw_1402 gw_1404 gp_54 gw_15 gw_1405 hd_X12_nextToken hC hw (c_mv γ l z z2 z10 z11 z12 z13 z14 z15 z16 z17 z18 z19 z22 z23 z24 z25 z26 z27 z28 z29 z30 z31 z32 z33 z36 z37 z38 z39 z40 z41 z42 z43 z44 z45 z46 z47 z48 z55 z56 z59 z60 z61 n0 n1 n49 n50 n51 n52 n53 n54 n57 n58 n62 n63 n g rs hn) ⟨by decide, by decide⟩ ⟨by decide, by decide⟩ hl.1 rfl 0 rfl rfl rfl (Nat.le_of_ble_eq_true rfl) [0, 1] [] rfl rfl rfl rfl (by decide) dX12_needsBoth_15 (fun r w1 H locs hq hw => ?_)
    obtain ⟨rfl, rfl⟩ := hq
    have hw : kW γ A (mWz γ z z2 z10 z11 z12 z13 z14 z15 z16 z17 z18 z19 z22 z23 z24 z25 z26 z27 z28 z29 z30 z31 z32 z33 z36 z37 z38 z39 z40 z41 z42 z43 z44 z45 z46 z47 z48 z55 z56 z59 z60 z61 n0 n1 n49 n50 n51 n52 n53 n54 n57 n58 n62 n63 g n (mv g n rs)) s H locs := hw
    refine W.eq (g2 := F0 m 18 ls []) rfl ?_
    refine lv_aload_n hx hb dX12_needsBoth_18 rfl (lv_at hl 0 rfl) ?_
    refine lv_iload_n hx hb dX12_needsBoth_19 rfl (lv_at hl 2 rfl) ?_
    refine lv_iload hx hb dX12_needsBoth_20 (lv_at hl 3 rfl) ?_
    refine k_V (wr := []) 2 gw_1464 gw_1466 gp_64 gw_15 gw_1467 hd_X12_needsNumber hC hw (c_m_needsNumber γ l z z2 z10 z11 z12 z13 z14 z15 z16 z17 z18 z19 z22 z23 z24 z25 z26 z27 z28 z29 z30 z31 z32 z33 z36 z37 z38 z39 z40 z41 z42 z43 z44 z45 z46 z47 z48 z55 z56 z59 z60 z61 n0 n1 n49 n50 n51 n52 n53 n54 n57 n58 n62 n63 n g (mv g n rs) lo hi hn) ⟨by decide, by decide⟩ ⟨by decide, by decide⟩ hl.1 rfl 0 rfl rfl rfl (Nat.le_of_ble_eq_true rfl) [0, 1] [] rfl rfl rfl rfl (by decide) dX12_needsBoth_22 (fun r w1 H locs hq hw => ?_)
    obtain ⟨rfl, rfl⟩ := hq
    have hw : kW γ A (mWz γ z z2 z10 z11 z12 z13 z14 z15 z16 z17 z18 z19 z22 z23 z24 z25 z26 z27 z28 z29 z30 z31 z32 z33 z36 z37 z38 z39 z40 z41 z42 z43 z44 z45 z46 z47 z48 z55 z56 z59 z60 z61 n0 n1 n49 n50 n51 n52 n53 n54 n57 n58 n62 n63 g n ((F_m_needsNumber g n (mv g n rs) lo hi).2)) s H locs := hw
    refine W.eq (g2 := F0 m 25 ls [.int ((F_m_needsNumber g n (mv g n rs) lo hi).1)]) rfl ?_
    have hE : (F_m_needsBoth g n rs x lo hi) = (((F_m_needsNumber g n (mv g n rs) lo hi).1), ((F_m_needsNumber g n (mv g n rs) lo hi).2)) := by unfold F_m_needsBoth; rw [if_neg c_124]
    have hw : kW γ A (mWz γ z z2 z10 z11 z12 z13 z14 z15 z16 z17 z18 z19 z22 z23 z24 z25 z26 z27 z28 z29 z30 z31 z32 z33 z36 z37 z38 z39 z40 z41 z42 z43 z44 z45 z46 z47 z48 z55 z56 z59 z60 z61 n0 n1 n49 n50 n51 n52 n53 n54 n57 n58 n62 n63 g n ((F_m_needsBoth g n rs x lo hi).2)) s H locs := by first | (rw [hE]; exact hw) | exact hw
    exact k_zret hC hr hlocks (zb b_needsNumber) hw [0, 1] rfl rfl ⟨by rw [hE], rfl⟩ (by decide) (by decide) dX12_needsBoth_25
  · refine lv_aload_n hx hb dX12_needsBoth_8 rfl (lv_at hl 0 rfl) ?_
    refine lv_iconst (v := 1) hx hb dX12_needsBoth_9 (by decide) ?_
    refine k_V (wr := []) 1 gw_1421 gw_1423 gp_58 gw_15 gw_1424 hd_X12_fails hC hw (c_m_fails γ l z z2 z10 z11 z12 z13 z14 z15 z16 z17 z18 z19 z22 z23 z24 z25 z26 z27 z28 z29 z30 z31 z32 z33 z36 z37 z38 z39 z40 z41 z42 z43 z44 z45 z46 z47 z48 z55 z56 z59 z60 z61 n0 n1 n49 n50 n51 n52 n53 n54 n57 n58 n62 n63 n g rs 1 hn) ⟨by decide, by decide⟩ ⟨by decide, by decide⟩ hl.1 rfl 0 rfl rfl rfl (Nat.le_of_ble_eq_true rfl) [0, 1] [] rfl rfl rfl rfl (by decide) dX12_needsBoth_10 (fun r w1 H locs hq hw => ?_)
    obtain ⟨rfl, rfl⟩ := hq
    have hw : kW γ A (mWz γ z z2 z10 z11 z12 z13 z14 z15 z16 z17 z18 z19 z22 z23 z24 z25 z26 z27 z28 z29 z30 z31 z32 z33 z36 z37 z38 z39 z40 z41 z42 z43 z44 z45 z46 z47 z48 z55 z56 z59 z60 z61 n0 n1 n49 n50 n51 n52 n53 n54 n57 n58 n62 n63 g n (F_m_fails g n rs 1)) s H locs := hw
    refine W.eq (g2 := F0 m 13 ls [.int 0]) rfl ?_
    have hE : (F_m_needsBoth g n rs x lo hi) = (0, (F_m_fails g n rs 1)) := by unfold F_m_needsBoth; rw [if_pos c_124]
    have hw : kW γ A (mWz γ z z2 z10 z11 z12 z13 z14 z15 z16 z17 z18 z19 z22 z23 z24 z25 z26 z27 z28 z29 z30 z31 z32 z33 z36 z37 z38 z39 z40 z41 z42 z43 z44 z45 z46 z47 z48 z55 z56 z59 z60 z61 n0 n1 n49 n50 n51 n52 n53 n54 n57 n58 n62 n63 g n ((F_m_needsBoth g n rs x lo hi).2)) s H locs := by first | (rw [hE]; exact hw) | exact hw
    exact k_zret hC hr hlocks rfl hw [0, 1] rfl rfl ⟨by rw [hE], rfl⟩ (by decide) (by decide) dX12_needsBoth_13

def F_m_closes (g : Nat → Int32) (n : Nat) (rs : mRS) : Int32 × mRS :=
  if (F_m_isSign g n rs 59) = 0 then (0, (F_m_fails g n rs 1)) else (1, (mv g n rs))
set_option maxHeartbeats 4000000 in
set_option maxRecDepth 100000 in
theorem c_m_closes (γ : kΓ) (l : Launch) (z : Nat) (z2 : Nat) (z10 : Nat) (z11 : Nat) (z12 : Nat) (z13 : Nat) (z14 : Nat) (z15 : Nat) (z16 : Nat) (z17 : Nat) (z18 : Nat) (z19 : Nat) (z22 : Nat) (z23 : Nat) (z24 : Nat) (z25 : Nat) (z26 : Nat) (z27 : Nat) (z28 : Nat) (z29 : Nat) (z30 : Nat) (z31 : Nat) (z32 : Nat) (z33 : Nat) (z36 : Nat) (z37 : Nat) (z38 : Nat) (z39 : Nat) (z40 : Nat) (z41 : Nat) (z42 : Nat) (z43 : Nat) (z44 : Nat) (z45 : Nat) (z46 : Nat) (z47 : Nat) (z48 : Nat) (z55 : Nat) (z56 : Nat) (z59 : Nat) (z60 : Nat) (z61 : Nat) (n0 : Int32) (n1 : Int32) (n49 : Int32) (n50 : Int32) (n51 : Int32) (n52 : Int32) (n53 : Int32) (n54 : Int32) (n57 : Int32) (n58 : Int32) (n62 : Int32) (n63 : Int64) (n : Nat) (g : Nat → Int32) (rs : mRS) (hn : n ≤ 1000) : kM γ l yX12_closes cX12_closes 1 ((some .boolean)) ({ frames := 2, cells := 0, slots := 0, locals := 61 } : Room) [.ref z] (mWz γ z z2 z10 z11 z12 z13 z14 z15 z16 z17 z18 z19 z22 z23 z24 z25 z26 z27 z28 z29 z30 z31 z32 z33 z36 z37 z38 z39 z40 z41 z42 z43 z44 z45 z46 z47 z48 z55 z56 z59 z60 z61 n0 n1 n49 n50 n51 n52 n53 n54 n57 n58 n62 n63 g n rs) (fun r w1 => r = some (.int ((F_m_closes g n rs).1)) ∧ w1 = (mWz γ z z2 z10 z11 z12 z13 z14 z15 z16 z17 z18 z19 z22 z23 z24 z25 z26 z27 z28 z29 z30 z31 z32 z33 z36 z37 z38 z39 z40 z41 z42 z43 z44 z45 z46 z47 z48 z55 z56 z59 z60 z61 n0 n1 n49 n50 n51 n52 n53 n54 n57 n58 n62 n63 g n ((F_m_closes g n rs).2))) := by
  refine k_ofW (by decide) (Nat.le_of_ble_eq_true rfl) ?_
  intro p9 e s m below meth c A ls hC hr hlocks hname hw hl
  have hx := hC.1
  have hb := hC.2.1
  have hl : lv_has ls 1 [(0, .ref z)] := hl
  refine lv_aload_n hx hb dX12_closes_0 rfl (lv_at hl 0 rfl) ?_
  refine lv_bipush (v := 59) hx hb dX12_closes_1 (by decide) ?_
  refine k_V (wr := []) 1 gw_1475 gw_1477 gp_66 gw_15 gw_1478 hd_X12_isSign hC hw (c_m_isSign γ l z z2 z10 z11 z12 z13 z14 z15 z16 z17 z18 z19 z22 z23 z24 z25 z26 z27 z28 z29 z30 z31 z32 z33 z36 z37 z38 z39 z40 z41 z42 z43 z44 z45 z46 z47 z48 z55 z56 z59 z60 z61 n0 n1 n49 n50 n51 n52 n53 n54 n57 n58 n62 n63 n g rs 59 hn) ⟨by decide, by decide⟩ ⟨by decide, by decide⟩ hl.1 rfl 0 rfl rfl rfl (Nat.le_of_ble_eq_true rfl) [0, 1] [] rfl rfl rfl rfl (by decide) dX12_closes_3 (fun r w1 H locs hq hw => ?_)
  obtain ⟨rfl, rfl⟩ := hq
  have hw : kW γ A (mWz γ z z2 z10 z11 z12 z13 z14 z15 z16 z17 z18 z19 z22 z23 z24 z25 z26 z27 z28 z29 z30 z31 z32 z33 z36 z37 z38 z39 z40 z41 z42 z43 z44 z45 z46 z47 z48 z55 z56 z59 z60 z61 n0 n1 n49 n50 n51 n52 n53 n54 n57 n58 n62 n63 g n rs) s H locs := hw
  refine W.eq (g2 := F0 m 6 ls [.int (F_m_isSign g n rs 59)]) rfl ?_
  refine lv_if_ne (tgt := 15) hx hb dX12_closes_6 (by decide) (fun c_126 => ?_) (fun c_126 => ?_)
  · refine lv_aload_n hx hb dX12_closes_15 rfl (lv_at hl 0 rfl) ?_
    refine k_V (wr := []) 0 gw_1402 gw_1404 gp_54 gw_15 gw_1405 hd_X12_nextToken hC hw (c_mv γ l z z2 z10 z11 z12 z13 z14 z15 z16 z17 z18 z19 z22 z23 z24 z25 z26 z27 z28 z29 z30 z31 z32 z33 z36 z37 z38 z39 z40 z41 z42 z43 z44 z45 z46 z47 z48 z55 z56 z59 z60 z61 n0 n1 n49 n50 n51 n52 n53 n54 n57 n58 n62 n63 n g rs hn) ⟨by decide, by decide⟩ ⟨by decide, by decide⟩ hl.1 rfl 0 rfl rfl rfl (Nat.le_of_ble_eq_true rfl) [0, 1] [] rfl rfl rfl rfl (by decide) dX12_closes_16 (fun r w1 H locs hq hw => ?_)
    obtain ⟨rfl, rfl⟩ := hq
    have hw : kW γ A (mWz γ z z2 z10 z11 z12 z13 z14 z15 z16 z17 z18 z19 z22 z23 z24 z25 z26 z27 z28 z29 z30 z31 z32 z33 z36 z37 z38 z39 z40 z41 z42 z43 z44 z45 z46 z47 z48 z55 z56 z59 z60 z61 n0 n1 n49 n50 n51 n52 n53 n54 n57 n58 n62 n63 g n (mv g n rs)) s H locs := hw
    refine W.eq (g2 := F0 m 19 ls []) rfl ?_
    refine lv_iconst (v := 1) hx hb dX12_closes_19 (by decide) ?_
    have hE : (F_m_closes g n rs) = (1, (mv g n rs)) := by unfold F_m_closes; rw [if_neg c_126]
    have hw : kW γ A (mWz γ z z2 z10 z11 z12 z13 z14 z15 z16 z17 z18 z19 z22 z23 z24 z25 z26 z27 z28 z29 z30 z31 z32 z33 z36 z37 z38 z39 z40 z41 z42 z43 z44 z45 z46 z47 z48 z55 z56 z59 z60 z61 n0 n1 n49 n50 n51 n52 n53 n54 n57 n58 n62 n63 g n ((F_m_closes g n rs).2)) s H locs := by first | (rw [hE]; exact hw) | exact hw
    exact k_zret hC hr hlocks rfl hw [0, 1] rfl rfl ⟨by rw [hE], rfl⟩ (by decide) (by decide) dX12_closes_20
  · refine lv_aload_n hx hb dX12_closes_9 rfl (lv_at hl 0 rfl) ?_
    refine lv_iconst (v := 1) hx hb dX12_closes_10 (by decide) ?_
    refine k_V (wr := []) 1 gw_1421 gw_1423 gp_58 gw_15 gw_1424 hd_X12_fails hC hw (c_m_fails γ l z z2 z10 z11 z12 z13 z14 z15 z16 z17 z18 z19 z22 z23 z24 z25 z26 z27 z28 z29 z30 z31 z32 z33 z36 z37 z38 z39 z40 z41 z42 z43 z44 z45 z46 z47 z48 z55 z56 z59 z60 z61 n0 n1 n49 n50 n51 n52 n53 n54 n57 n58 n62 n63 n g rs 1 hn) ⟨by decide, by decide⟩ ⟨by decide, by decide⟩ hl.1 rfl 0 rfl rfl rfl (Nat.le_of_ble_eq_true rfl) [0, 1] [] rfl rfl rfl rfl (by decide) dX12_closes_11 (fun r w1 H locs hq hw => ?_)
    obtain ⟨rfl, rfl⟩ := hq
    have hw : kW γ A (mWz γ z z2 z10 z11 z12 z13 z14 z15 z16 z17 z18 z19 z22 z23 z24 z25 z26 z27 z28 z29 z30 z31 z32 z33 z36 z37 z38 z39 z40 z41 z42 z43 z44 z45 z46 z47 z48 z55 z56 z59 z60 z61 n0 n1 n49 n50 n51 n52 n53 n54 n57 n58 n62 n63 g n (F_m_fails g n rs 1)) s H locs := hw
    refine W.eq (g2 := F0 m 14 ls [.int 0]) rfl ?_
    have hE : (F_m_closes g n rs) = (0, (F_m_fails g n rs 1)) := by unfold F_m_closes; rw [if_pos c_126]
    have hw : kW γ A (mWz γ z z2 z10 z11 z12 z13 z14 z15 z16 z17 z18 z19 z22 z23 z24 z25 z26 z27 z28 z29 z30 z31 z32 z33 z36 z37 z38 z39 z40 z41 z42 z43 z44 z45 z46 z47 z48 z55 z56 z59 z60 z61 n0 n1 n49 n50 n51 n52 n53 n54 n57 n58 n62 n63 g n ((F_m_closes g n rs).2)) s H locs := by first | (rw [hE]; exact hw) | exact hw
    exact k_zret hC hr hlocks rfl hw [0, 1] rfl rfl ⟨by rw [hE], rfl⟩ (by decide) (by decide) dX12_closes_14

theorem b_closes {g : Nat → Int32} {n : Nat} {rs : mRS} : (F_m_closes g n rs).1 = 0 ∨ (F_m_closes g n rs).1 = 1 := by
  unfold F_m_closes
  repeat' split
  all_goals first | exact .inl rfl | exact .inr rfl


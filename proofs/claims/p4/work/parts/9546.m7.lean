theorem dX12_readsAll_0 : decode cX12_readsAll 0 = .ok (.aload_n 0, 1) := by decide +kernel
theorem dX12_readsAll_1 : decode cX12_readsAll 1 = .ok (.iconst 1, 1) := by decide +kernel
theorem dX12_readsAll_2 : decode cX12_readsAll 2 = .ok (.invokevirtual 139, 3) := by decide +kernel
theorem dX12_readsAll_5 : decode cX12_readsAll 5 = .ok (.iconst 2, 1) := by decide +kernel
theorem dX12_readsAll_6 : decode cX12_readsAll 6 = .ok (.istore_n 1, 1) := by decide +kernel
theorem dX12_readsAll_7 : decode cX12_readsAll 7 = .ok (.iload_n 1, 1) := by decide +kernel
theorem dX12_readsAll_8 : decode cX12_readsAll 8 = .ok (.iconst 4, 1) := by decide +kernel
theorem dX12_readsAll_9 : decode cX12_readsAll 9 = .ok (.if_icmp .ge 27, 3) := by decide +kernel
theorem dX12_readsAll_12 : decode cX12_readsAll 12 = .ok (.aload_n 0, 1) := by decide +kernel
theorem dX12_readsAll_13 : decode cX12_readsAll 13 = .ok (.getfield 35, 3) := by decide +kernel
theorem dX12_readsAll_16 : decode cX12_readsAll 16 = .ok (.iload_n 1, 1) := by decide +kernel
theorem dX12_readsAll_17 : decode cX12_readsAll 17 = .ok (.sipush 1000, 3) := by decide +kernel
theorem dX12_readsAll_20 : decode cX12_readsAll 20 = .ok (.iastore, 1) := by decide +kernel
theorem dX12_readsAll_21 : decode cX12_readsAll 21 = .ok (.aload_n 0, 1) := by decide +kernel
theorem dX12_readsAll_22 : decode cX12_readsAll 22 = .ok (.getfield 38, 3) := by decide +kernel
theorem dX12_readsAll_25 : decode cX12_readsAll 25 = .ok (.iload_n 1, 1) := by decide +kernel
theorem dX12_readsAll_26 : decode cX12_readsAll 26 = .ok (.sipush 1000, 3) := by decide +kernel
theorem dX12_readsAll_29 : decode cX12_readsAll 29 = .ok (.iastore, 1) := by decide +kernel
theorem dX12_readsAll_30 : decode cX12_readsAll 30 = .ok (.iinc 1 1, 3) := by decide +kernel
theorem dX12_readsAll_33 : decode cX12_readsAll 33 = .ok (.goto (-26), 3) := by decide +kernel
theorem dX12_readsAll_36 : decode cX12_readsAll 36 = .ok (.aload_n 0, 1) := by decide +kernel
theorem dX12_readsAll_37 : decode cX12_readsAll 37 = .ok (.iconst 0, 1) := by decide +kernel
theorem dX12_readsAll_38 : decode cX12_readsAll 38 = .ok (.putfield 299, 3) := by decide +kernel
theorem dX12_readsAll_41 : decode cX12_readsAll 41 = .ok (.aload_n 0, 1) := by decide +kernel
theorem dX12_readsAll_42 : decode cX12_readsAll 42 = .ok (.sipush 1000, 3) := by decide +kernel
theorem dX12_readsAll_45 : decode cX12_readsAll 45 = .ok (.putfield 181, 3) := by decide +kernel
theorem dX12_readsAll_48 : decode cX12_readsAll 48 = .ok (.aload_n 0, 1) := by decide +kernel
theorem dX12_readsAll_49 : decode cX12_readsAll 49 = .ok (.invokevirtual 305, 3) := by decide +kernel
theorem dX12_readsAll_52 : decode cX12_readsAll 52 = .ok (.aload_n 0, 1) := by decide +kernel
theorem dX12_readsAll_53 : decode cX12_readsAll 53 = .ok (.getfield 167, 3) := by decide +kernel
theorem dX12_readsAll_56 : decode cX12_readsAll 56 = .ok (.ifCond .eq 168, 3) := by decide +kernel
theorem dX12_readsAll_59 : decode cX12_readsAll 59 = .ok (.aload_n 0, 1) := by decide +kernel
theorem dX12_readsAll_60 : decode cX12_readsAll 60 = .ok (.ldc2_w 228, 3) := by decide +kernel
theorem dX12_readsAll_63 : decode cX12_readsAll 63 = .ok (.invokevirtual 198, 3) := by decide +kernel
theorem dX12_readsAll_66 : decode cX12_readsAll 66 = .ok (.ifCond .eq 10, 3) := by decide +kernel
theorem dX12_readsAll_69 : decode cX12_readsAll 69 = .ok (.aload_n 0, 1) := by decide +kernel
theorem dX12_readsAll_70 : decode cX12_readsAll 70 = .ok (.invokevirtual 308, 3) := by decide +kernel
theorem dX12_readsAll_73 : decode cX12_readsAll 73 = .ok (.goto 141, 3) := by decide +kernel
theorem dX12_readsAll_76 : decode cX12_readsAll 76 = .ok (.aload_n 0, 1) := by decide +kernel
theorem dX12_readsAll_77 : decode cX12_readsAll 77 = .ok (.ldc2_w 234, 3) := by decide +kernel
theorem dX12_readsAll_80 : decode cX12_readsAll 80 = .ok (.invokevirtual 198, 3) := by decide +kernel
theorem dX12_readsAll_83 : decode cX12_readsAll 83 = .ok (.ifCond .eq 10, 3) := by decide +kernel
theorem dX12_readsAll_86 : decode cX12_readsAll 86 = .ok (.aload_n 0, 1) := by decide +kernel
theorem dX12_readsAll_87 : decode cX12_readsAll 87 = .ok (.invokevirtual 311, 3) := by decide +kernel
theorem dX12_readsAll_90 : decode cX12_readsAll 90 = .ok (.goto 124, 3) := by decide +kernel
theorem dX12_readsAll_93 : decode cX12_readsAll 93 = .ok (.aload_n 0, 1) := by decide +kernel
theorem dX12_readsAll_94 : decode cX12_readsAll 94 = .ok (.ldc2_w 236, 3) := by decide +kernel
theorem dX12_readsAll_97 : decode cX12_readsAll 97 = .ok (.invokevirtual 198, 3) := by decide +kernel
theorem dX12_readsAll_100 : decode cX12_readsAll 100 = .ok (.ifCond .eq 10, 3) := by decide +kernel
theorem dX12_readsAll_103 : decode cX12_readsAll 103 = .ok (.aload_n 0, 1) := by decide +kernel
theorem dX12_readsAll_104 : decode cX12_readsAll 104 = .ok (.invokevirtual 314, 3) := by decide +kernel
theorem dX12_readsAll_107 : decode cX12_readsAll 107 = .ok (.goto 107, 3) := by decide +kernel
theorem dX12_readsAll_110 : decode cX12_readsAll 110 = .ok (.aload_n 0, 1) := by decide +kernel
theorem dX12_readsAll_111 : decode cX12_readsAll 111 = .ok (.ldc2_w 238, 3) := by decide +kernel
theorem dX12_readsAll_114 : decode cX12_readsAll 114 = .ok (.invokevirtual 198, 3) := by decide +kernel
theorem dX12_readsAll_117 : decode cX12_readsAll 117 = .ok (.ifCond .eq 14, 3) := by decide +kernel
theorem dX12_readsAll_120 : decode cX12_readsAll 120 = .ok (.aload_n 0, 1) := by decide +kernel
theorem dX12_readsAll_121 : decode cX12_readsAll 121 = .ok (.iconst 2, 1) := by decide +kernel
theorem dX12_readsAll_122 : decode cX12_readsAll 122 = .ok (.iconst 2, 1) := by decide +kernel
theorem dX12_readsAll_123 : decode cX12_readsAll 123 = .ok (.bipush 12, 2) := by decide +kernel
theorem dX12_readsAll_125 : decode cX12_readsAll 125 = .ok (.invokevirtual 317, 3) := by decide +kernel
theorem dX12_readsAll_128 : decode cX12_readsAll 128 = .ok (.goto 86, 3) := by decide +kernel
theorem dX12_readsAll_131 : decode cX12_readsAll 131 = .ok (.aload_n 0, 1) := by decide +kernel
theorem dX12_readsAll_132 : decode cX12_readsAll 132 = .ok (.ldc2_w 240, 3) := by decide +kernel
theorem dX12_readsAll_135 : decode cX12_readsAll 135 = .ok (.invokevirtual 198, 3) := by decide +kernel
theorem dX12_readsAll_138 : decode cX12_readsAll 138 = .ok (.ifCond .eq 14, 3) := by decide +kernel
theorem dX12_readsAll_141 : decode cX12_readsAll 141 = .ok (.aload_n 0, 1) := by decide +kernel
theorem dX12_readsAll_142 : decode cX12_readsAll 142 = .ok (.iconst 3, 1) := by decide +kernel
theorem dX12_readsAll_143 : decode cX12_readsAll 143 = .ok (.iconst 0, 1) := by decide +kernel
theorem dX12_readsAll_144 : decode cX12_readsAll 144 = .ok (.bipush 20, 2) := by decide +kernel
theorem dX12_readsAll_146 : decode cX12_readsAll 146 = .ok (.invokevirtual 317, 3) := by decide +kernel
theorem dX12_readsAll_149 : decode cX12_readsAll 149 = .ok (.goto 65, 3) := by decide +kernel
theorem dX12_readsAll_152 : decode cX12_readsAll 152 = .ok (.aload_n 0, 1) := by decide +kernel
theorem dX12_readsAll_153 : decode cX12_readsAll 153 = .ok (.ldc2_w 242, 3) := by decide +kernel
theorem dX12_readsAll_156 : decode cX12_readsAll 156 = .ok (.invokevirtual 198, 3) := by decide +kernel
theorem dX12_readsAll_159 : decode cX12_readsAll 159 = .ok (.ifCond .eq 14, 3) := by decide +kernel
theorem dX12_readsAll_162 : decode cX12_readsAll 162 = .ok (.aload_n 0, 1) := by decide +kernel
theorem dX12_readsAll_163 : decode cX12_readsAll 163 = .ok (.iconst 4, 1) := by decide +kernel
theorem dX12_readsAll_164 : decode cX12_readsAll 164 = .ok (.iconst 1, 1) := by decide +kernel
theorem dX12_readsAll_165 : decode cX12_readsAll 165 = .ok (.bipush 6, 2) := by decide +kernel
theorem dX12_readsAll_167 : decode cX12_readsAll 167 = .ok (.invokevirtual 317, 3) := by decide +kernel
theorem dX12_readsAll_170 : decode cX12_readsAll 170 = .ok (.goto 44, 3) := by decide +kernel
theorem dX12_readsAll_173 : decode cX12_readsAll 173 = .ok (.aload_n 0, 1) := by decide +kernel
theorem dX12_readsAll_174 : decode cX12_readsAll 174 = .ok (.ldc2_w 244, 3) := by decide +kernel
theorem dX12_readsAll_177 : decode cX12_readsAll 177 = .ok (.invokevirtual 198, 3) := by decide +kernel
theorem dX12_readsAll_180 : decode cX12_readsAll 180 = .ok (.ifCond .eq 11, 3) := by decide +kernel
theorem dX12_readsAll_183 : decode cX12_readsAll 183 = .ok (.aload_n 0, 1) := by decide +kernel
theorem dX12_readsAll_184 : decode cX12_readsAll 184 = .ok (.iconst 0, 1) := by decide +kernel
theorem dX12_readsAll_185 : decode cX12_readsAll 185 = .ok (.invokevirtual 320, 3) := by decide +kernel
theorem dX12_readsAll_188 : decode cX12_readsAll 188 = .ok (.goto 26, 3) := by decide +kernel
theorem dX12_readsAll_191 : decode cX12_readsAll 191 = .ok (.aload_n 0, 1) := by decide +kernel
theorem dX12_readsAll_192 : decode cX12_readsAll 192 = .ok (.ldc2_w 246, 3) := by decide +kernel
theorem dX12_readsAll_195 : decode cX12_readsAll 195 = .ok (.invokevirtual 198, 3) := by decide +kernel
theorem dX12_readsAll_198 : decode cX12_readsAll 198 = .ok (.ifCond .eq 11, 3) := by decide +kernel
theorem dX12_readsAll_201 : decode cX12_readsAll 201 = .ok (.aload_n 0, 1) := by decide +kernel
theorem dX12_readsAll_202 : decode cX12_readsAll 202 = .ok (.iconst 1, 1) := by decide +kernel
theorem dX12_readsAll_203 : decode cX12_readsAll 203 = .ok (.invokevirtual 320, 3) := by decide +kernel
theorem dX12_readsAll_206 : decode cX12_readsAll 206 = .ok (.goto 8, 3) := by decide +kernel
theorem dX12_readsAll_209 : decode cX12_readsAll 209 = .ok (.aload_n 0, 1) := by decide +kernel
theorem dX12_readsAll_210 : decode cX12_readsAll 210 = .ok (.iconst 1, 1) := by decide +kernel
theorem dX12_readsAll_211 : decode cX12_readsAll 211 = .ok (.invokevirtual 206, 3) := by decide +kernel
theorem dX12_readsAll_214 : decode cX12_readsAll 214 = .ok (.istore_n 1, 1) := by decide +kernel
theorem dX12_readsAll_215 : decode cX12_readsAll 215 = .ok (.iload_n 1, 1) := by decide +kernel
theorem dX12_readsAll_216 : decode cX12_readsAll 216 = .ok (.ifCond .ne 5, 3) := by decide +kernel
theorem dX12_readsAll_219 : decode cX12_readsAll 219 = .ok (.iconst 0, 1) := by decide +kernel
theorem dX12_readsAll_220 : decode cX12_readsAll 220 = .ok (.ireturn, 1) := by decide +kernel
theorem dX12_readsAll_221 : decode cX12_readsAll 221 = .ok (.goto (-169), 3) := by decide +kernel
theorem dX12_readsAll_224 : decode cX12_readsAll 224 = .ok (.iconst 1, 1) := by decide +kernel
theorem dX12_readsAll_225 : decode cX12_readsAll 225 = .ok (.ireturn, 1) := by decide +kernel
def F_m_rall (g : Nat → Int32) (n : Nat) : Nat → mRS → mAS → Option (Int32 × mRS × mAS)
  | 0, rs, a => none
  | k + 1, rs, a => if (mk g n (rs.2.1)) = 0 then some (1, rs, a) else (if (F_m_isWord g n rs 7871591333) = 0 then (if (F_m_isWord g n rs 2546381602) = 0 then (if (F_m_isWord g n rs 289912034) = 0 then (if (F_m_isWord g n rs 10820768) = 0 then (if (F_m_isWord g n rs 370000) = 0 then (if (F_m_isWord g n rs 79329434) = 0 then (if (F_m_isWord g n rs 3746728) = 0 then (if (F_m_isWord g n rs 40187) = 0 then some (0, (F_m_fails g n rs 1), a) else (if ((F_m_readsLaw1 g n rs a).1) = 0 then some (0, ((F_m_readsLaw1 g n rs a).2.1), ((F_m_readsLaw1 g n rs a).2.2)) else (F_m_rall g n k ((F_m_readsLaw1 g n rs a).2.1) ((F_m_readsLaw1 g n rs a).2.2)))) else (if ((F_m_readsLaw0 g n rs a).1) = 0 then some (0, ((F_m_readsLaw0 g n rs a).2.1), ((F_m_readsLaw0 g n rs a).2.2)) else (F_m_rall g n k ((F_m_readsLaw0 g n rs a).2.1) ((F_m_readsLaw0 g n rs a).2.2)))) else (if ((F_m_readsOne4 g n rs a 1 6).1) = 0 then some (0, ((F_m_readsOne4 g n rs a 1 6).2.1), ((F_m_readsOne4 g n rs a 1 6).2.2)) else (F_m_rall g n k ((F_m_readsOne4 g n rs a 1 6).2.1) ((F_m_readsOne4 g n rs a 1 6).2.2)))) else (if ((F_m_readsOne3 g n rs a 0 20).1) = 0 then some (0, ((F_m_readsOne3 g n rs a 0 20).2.1), ((F_m_readsOne3 g n rs a 0 20).2.2)) else (F_m_rall g n k ((F_m_readsOne3 g n rs a 0 20).2.1) ((F_m_readsOne3 g n rs a 0 20).2.2)))) else (if ((F_m_readsOne2 g n rs a 2 12).1) = 0 then some (0, ((F_m_readsOne2 g n rs a 2 12).2.1), ((F_m_readsOne2 g n rs a 2 12).2.2)) else (F_m_rall g n k ((F_m_readsOne2 g n rs a 2 12).2.1) ((F_m_readsOne2 g n rs a 2 12).2.2)))) else (if ((F_m_readsTenant g n rs a).1) = 0 then some (0, ((F_m_readsTenant g n rs a).2.1), ((F_m_readsTenant g n rs a).2.2)) else (F_m_rall g n k ((F_m_readsTenant g n rs a).2.1) ((F_m_readsTenant g n rs a).2.2)))) else (if ((F_m_readsFollows g n rs a).1) = 0 then some (0, ((F_m_readsFollows g n rs a).2.1), ((F_m_readsFollows g n rs a).2.2)) else (F_m_rall g n k ((F_m_readsFollows g n rs a).2.1) ((F_m_readsFollows g n rs a).2.2)))) else (if ((F_m_readsThought g n rs a).1) = 0 then some (0, ((F_m_readsThought g n rs a).2.1), ((F_m_readsThought g n rs a).2.2)) else (F_m_rall g n k ((F_m_readsThought g n rs a).2.1) ((F_m_readsThought g n rs a).2.2))))
theorem F_m_rall_s {g : Nat → Int32} {n : Nat} {rs : mRS} {a : mAS} {k : Nat} : (F_m_rall g n (k + 1) rs a) = (if (mk g n (rs.2.1)) = 0 then some (1, rs, a) else (if (F_m_isWord g n rs 7871591333) = 0 then (if (F_m_isWord g n rs 2546381602) = 0 then (if (F_m_isWord g n rs 289912034) = 0 then (if (F_m_isWord g n rs 10820768) = 0 then (if (F_m_isWord g n rs 370000) = 0 then (if (F_m_isWord g n rs 79329434) = 0 then (if (F_m_isWord g n rs 3746728) = 0 then (if (F_m_isWord g n rs 40187) = 0 then some (0, (F_m_fails g n rs 1), a) else (if ((F_m_readsLaw1 g n rs a).1) = 0 then some (0, ((F_m_readsLaw1 g n rs a).2.1), ((F_m_readsLaw1 g n rs a).2.2)) else (F_m_rall g n k ((F_m_readsLaw1 g n rs a).2.1) ((F_m_readsLaw1 g n rs a).2.2)))) else (if ((F_m_readsLaw0 g n rs a).1) = 0 then some (0, ((F_m_readsLaw0 g n rs a).2.1), ((F_m_readsLaw0 g n rs a).2.2)) else (F_m_rall g n k ((F_m_readsLaw0 g n rs a).2.1) ((F_m_readsLaw0 g n rs a).2.2)))) else (if ((F_m_readsOne4 g n rs a 1 6).1) = 0 then some (0, ((F_m_readsOne4 g n rs a 1 6).2.1), ((F_m_readsOne4 g n rs a 1 6).2.2)) else (F_m_rall g n k ((F_m_readsOne4 g n rs a 1 6).2.1) ((F_m_readsOne4 g n rs a 1 6).2.2)))) else (if ((F_m_readsOne3 g n rs a 0 20).1) = 0 then some (0, ((F_m_readsOne3 g n rs a 0 20).2.1), ((F_m_readsOne3 g n rs a 0 20).2.2)) else (F_m_rall g n k ((F_m_readsOne3 g n rs a 0 20).2.1) ((F_m_readsOne3 g n rs a 0 20).2.2)))) else (if ((F_m_readsOne2 g n rs a 2 12).1) = 0 then some (0, ((F_m_readsOne2 g n rs a 2 12).2.1), ((F_m_readsOne2 g n rs a 2 12).2.2)) else (F_m_rall g n k ((F_m_readsOne2 g n rs a 2 12).2.1) ((F_m_readsOne2 g n rs a 2 12).2.2)))) else (if ((F_m_readsTenant g n rs a).1) = 0 then some (0, ((F_m_readsTenant g n rs a).2.1), ((F_m_readsTenant g n rs a).2.2)) else (F_m_rall g n k ((F_m_readsTenant g n rs a).2.1) ((F_m_readsTenant g n rs a).2.2)))) else (if ((F_m_readsFollows g n rs a).1) = 0 then some (0, ((F_m_readsFollows g n rs a).2.1), ((F_m_readsFollows g n rs a).2.2)) else (F_m_rall g n k ((F_m_readsFollows g n rs a).2.1) ((F_m_readsFollows g n rs a).2.2)))) else (if ((F_m_readsThought g n rs a).1) = 0 then some (0, ((F_m_readsThought g n rs a).2.1), ((F_m_readsThought g n rs a).2.2)) else (F_m_rall g n k ((F_m_readsThought g n rs a).2.1) ((F_m_readsThought g n rs a).2.2))))) := rfl
set_option maxHeartbeats 4000000 in
set_option maxRecDepth 100000 in
theorem lp_m_rall {γ : kΓ} {l : Launch} {p : Program} {e : Env} {s : State} {m : MethodId} {below : List Frame} {meth : Method} {c : Code} {A : Nat → Prop} (z : Nat) (z2 : Nat) (z10 : Nat) (z11 : Nat) (z12 : Nat) (z13 : Nat) (z14 : Nat) (z15 : Nat) (z16 : Nat) (z17 : Nat) (z18 : Nat) (z19 : Nat) (z22 : Nat) (z23 : Nat) (z24 : Nat) (z25 : Nat) (z26 : Nat) (z27 : Nat) (z28 : Nat) (z29 : Nat) (z30 : Nat) (z31 : Nat) (z32 : Nat) (z33 : Nat) (z36 : Nat) (z37 : Nat) (z38 : Nat) (z39 : Nat) (z40 : Nat) (z41 : Nat) (z42 : Nat) (z43 : Nat) (z44 : Nat) (z45 : Nat) (z46 : Nat) (z47 : Nat) (z48 : Nat) (z55 : Nat) (z56 : Nat) (z59 : Nat) (z60 : Nat) (z61 : Nat) (n0 : Int32) (n1 : Int32) (n49 : Int32) (n50 : Int32) (n51 : Int32) (n52 : Int32) (n53 : Int32) (n54 : Int32) (n57 : Int32) (n58 : Int32) (n62 : Int32) (n63 : Int64) (n : Nat) (g : Nat → Int32) (hn : n ≤ 1000) (hC : kC γ p s m [.ref z].toArray c cX12_readsAll 2 RX12 A) (hr : meth.sig.returnType = (some .boolean)) (hlocks : meth.locks = false) : ∀ (k : Nat) (rs : mRS) (a : mAS) (res : Int32 × mRS × mAS), (F_m_rall g n k rs a) = some res → (mOK a) → (mC g n rs) → ∀ (H : Heap) (locs : List Loc), kW γ A ((mWz γ z z2 z10 z11 z12 z13 z14 z15 z16 z17 z18 z19 z22 z23 z24 z25 z26 z27 z28 z29 z30 z31 z32 z33 z36 z37 z38 z39 z40 z41 z42 z43 z44 z45 z46 z47 z48 z55 z56 z59 z60 z61 n0 n1 n49 n50 n51 n52 n53 n54 n57 n58 n62 n63 g n rs) ++ (mWa γ z10 z11 z12 z13 z14 z15 z16 z17 z18 z19 z22 z23 a)) s H locs → ∀ ls : Array Slot, lv_has ls 2 [(0, .ref z)] → W p l e ({ frames := 5, cells := 0, slots := 0, locals := 128 } : Room) s m [.ref z].toArray below meth c H locs 0 0 (MQ below (kQ γ A (fun r w1 => r = some (.int (res.1)) ∧ w1 = ((mWz γ z z2 z10 z11 z12 z13 z14 z15 z16 z17 z18 z19 z22 z23 z24 z25 z26 z27 z28 z29 z30 z31 z32 z33 z36 z37 z38 z39 z40 z41 z42 z43 z44 z45 z46 z47 z48 z55 z56 z59 z60 z61 n0 n1 n49 n50 n51 n52 n53 n54 n57 n58 n62 n63 g n (res.2.1)) ++ (mWa γ z10 z11 z12 z13 z14 z15 z16 z17 z18 z19 z22 z23 (res.2.2))))) [.ref z].toArray s 0 0 A) (F0 m 52 ls []) := by
  have hx := hC.1
  have hb := hC.2.1
  intro k
  induction k with
  | zero =>
    intro rs a res hres; exact absurd hres (by intro h; cases h)
  | succ k ih =>
    intro rs a res hres hM hcd H locs hw ls hl
    refine lv_aload_n hx hb dX12_readsAll_52 rfl (lv_at hl 0 rfl) ?_
    refine fg_RX12_167 hC hw 0 rfl rfl dX12_readsAll_53 ?_
    refine lv_if_eq (tgt := 224) hx hb dX12_readsAll_56 (by decide) (fun c_386 => ?_) (fun c_386 => ?_)
    · refine lv_iconst (v := 1) hx hb dX12_readsAll_224 (by decide) ?_
      have hE : (F_m_rall g n (k + 1) rs a) = some (1, rs, a) := by rw [F_m_rall_s, if_pos c_386]
      have hE : res = (1, rs, a) := Option.some.inj (hres.symm.trans hE)
      have hw : kW γ A ((mWz γ z z2 z10 z11 z12 z13 z14 z15 z16 z17 z18 z19 z22 z23 z24 z25 z26 z27 z28 z29 z30 z31 z32 z33 z36 z37 z38 z39 z40 z41 z42 z43 z44 z45 z46 z47 z48 z55 z56 z59 z60 z61 n0 n1 n49 n50 n51 n52 n53 n54 n57 n58 n62 n63 g n (res.2.1)) ++ (mWa γ z10 z11 z12 z13 z14 z15 z16 z17 z18 z19 z22 z23 (res.2.2))) s H locs := by first | (rw [hE]; exact hw) | exact hw
      exact k_zret hC hr hlocks rfl hw [0, 1, 2, 3, 4, 5, 6, 7, 8, 9, 10, 11, 12, 13] rfl rfl ⟨by rw [hE], rfl⟩ (by decide) (by decide) dX12_readsAll_225
    · refine lv_aload_n hx hb dX12_readsAll_59 rfl (lv_at hl 0 rfl) ?_
      refine k_ldc2 hC gw_1412 dX12_readsAll_60 ?_
      refine k_V (wr := (mWa γ z10 z11 z12 z13 z14 z15 z16 z17 z18 z19 z22 z23 a)) 1 gw_1413 gw_1415 gp_56 gw_15 gw_1416 hd_X12_isWord hC hw (c_m_isWord γ l z z2 z10 z11 z12 z13 z14 z15 z16 z17 z18 z19 z22 z23 z24 z25 z26 z27 z28 z29 z30 z31 z32 z33 z36 z37 z38 z39 z40 z41 z42 z43 z44 z45 z46 z47 z48 z55 z56 z59 z60 z61 n0 n1 n49 n50 n51 n52 n53 n54 n57 n58 n62 n63 n g rs 7871591333 hn) ⟨by decide, by decide⟩ ⟨by decide, by decide⟩ hl.1 rfl 0 rfl rfl rfl (Nat.le_of_ble_eq_true rfl) [0, 1] [2, 3, 4, 5, 6, 7, 8, 9, 10, 11, 12, 13] rfl rfl rfl rfl (by decide) dX12_readsAll_63 (fun r w1 H locs hq hw => ?_)
      obtain ⟨rfl, rfl⟩ := hq
      have hw : kW γ A ((mWa γ z10 z11 z12 z13 z14 z15 z16 z17 z18 z19 z22 z23 a) ++ (mWz γ z z2 z10 z11 z12 z13 z14 z15 z16 z17 z18 z19 z22 z23 z24 z25 z26 z27 z28 z29 z30 z31 z32 z33 z36 z37 z38 z39 z40 z41 z42 z43 z44 z45 z46 z47 z48 z55 z56 z59 z60 z61 n0 n1 n49 n50 n51 n52 n53 n54 n57 n58 n62 n63 g n rs)) s H locs := hw
      refine W.eq (g2 := F0 m 66 ls [.int (F_m_isWord g n rs 7871591333)]) rfl ?_
      refine lv_if_eq (tgt := 76) hx hb dX12_readsAll_66 (by decide) (fun c_387 => ?_) (fun c_387 => ?_)
      · refine lv_aload_n hx hb dX12_readsAll_76 rfl (lv_at hl 0 rfl) ?_
        refine k_ldc2 hC gw_1435 dX12_readsAll_77 ?_
        refine k_V (wr := (mWa γ z10 z11 z12 z13 z14 z15 z16 z17 z18 z19 z22 z23 a)) 1 gw_1413 gw_1415 gp_56 gw_15 gw_1416 hd_X12_isWord hC hw (c_m_isWord γ l z z2 z10 z11 z12 z13 z14 z15 z16 z17 z18 z19 z22 z23 z24 z25 z26 z27 z28 z29 z30 z31 z32 z33 z36 z37 z38 z39 z40 z41 z42 z43 z44 z45 z46 z47 z48 z55 z56 z59 z60 z61 n0 n1 n49 n50 n51 n52 n53 n54 n57 n58 n62 n63 n g rs 2546381602 hn) ⟨by decide, by decide⟩ ⟨by decide, by decide⟩ hl.1 rfl 12 rfl rfl rfl (Nat.le_of_ble_eq_true rfl) [12, 13] [0, 1, 2, 3, 4, 5, 6, 7, 8, 9, 10, 11] rfl rfl rfl rfl (by decide) dX12_readsAll_80 (fun r w1 H locs hq hw => ?_)
        obtain ⟨rfl, rfl⟩ := hq
        have hw : kW γ A ((mWa γ z10 z11 z12 z13 z14 z15 z16 z17 z18 z19 z22 z23 a) ++ (mWz γ z z2 z10 z11 z12 z13 z14 z15 z16 z17 z18 z19 z22 z23 z24 z25 z26 z27 z28 z29 z30 z31 z32 z33 z36 z37 z38 z39 z40 z41 z42 z43 z44 z45 z46 z47 z48 z55 z56 z59 z60 z61 n0 n1 n49 n50 n51 n52 n53 n54 n57 n58 n62 n63 g n rs)) s H locs := hw
        refine W.eq (g2 := F0 m 83 ls [.int (F_m_isWord g n rs 2546381602)]) rfl ?_
        refine lv_if_eq (tgt := 93) hx hb dX12_readsAll_83 (by decide) (fun c_388 => ?_) (fun c_388 => ?_)
        · refine lv_aload_n hx hb dX12_readsAll_93 rfl (lv_at hl 0 rfl) ?_
          refine k_ldc2 hC gw_1436 dX12_readsAll_94 ?_
          refine k_V (wr := (mWa γ z10 z11 z12 z13 z14 z15 z16 z17 z18 z19 z22 z23 a)) 1 gw_1413 gw_1415 gp_56 gw_15 gw_1416 hd_X12_isWord hC hw (c_m_isWord γ l z z2 z10 z11 z12 z13 z14 z15 z16 z17 z18 z19 z22 z23 z24 z25 z26 z27 z28 z29 z30 z31 z32 z33 z36 z37 z38 z39 z40 z41 z42 z43 z44 z45 z46 z47 z48 z55 z56 z59 z60 z61 n0 n1 n49 n50 n51 n52 n53 n54 n57 n58 n62 n63 n g rs 289912034 hn) ⟨by decide, by decide⟩ ⟨by decide, by decide⟩ hl.1 rfl 12 rfl rfl rfl (Nat.le_of_ble_eq_true rfl) [12, 13] [0, 1, 2, 3, 4, 5, 6, 7, 8, 9, 10, 11] rfl rfl rfl rfl (by decide) dX12_readsAll_97 (fun r w1 H locs hq hw => ?_)
          obtain ⟨rfl, rfl⟩ := hq
          have hw : kW γ A ((mWa γ z10 z11 z12 z13 z14 z15 z16 z17 z18 z19 z22 z23 a) ++ (mWz γ z z2 z10 z11 z12 z13 z14 z15 z16 z17 z18 z19 z22 z23 z24 z25 z26 z27 z28 z29 z30 z31 z32 z33 z36 z37 z38 z39 z40 z41 z42 z43 z44 z45 z46 z47 z48 z55 z56 z59 z60 z61 n0 n1 n49 n50 n51 n52 n53 n54 n57 n58 n62 n63 g n rs)) s H locs := hw
          refine W.eq (g2 := F0 m 100 ls [.int (F_m_isWord g n rs 289912034)]) rfl ?_
          refine lv_if_eq (tgt := 110) hx hb dX12_readsAll_100 (by decide) (fun c_389 => ?_) (fun c_389 => ?_)
          · refine lv_aload_n hx hb dX12_readsAll_110 rfl (lv_at hl 0 rfl) ?_
            refine k_ldc2 hC gw_1437 dX12_readsAll_111 ?_
            refine k_V (wr := (mWa γ z10 z11 z12 z13 z14 z15 z16 z17 z18 z19 z22 z23 a)) 1 gw_1413 gw_1415 gp_56 gw_15 gw_1416 hd_X12_isWord hC hw (c_m_isWord γ l z z2 z10 z11 z12 z13 z14 z15 z16 z17 z18 z19 z22 z23 z24 z25 z26 z27 z28 z29 z30 z31 z32 z33 z36 z37 z38 z39 z40 z41 z42 z43 z44 z45 z46 z47 z48 z55 z56 z59 z60 z61 n0 n1 n49 n50 n51 n52 n53 n54 n57 n58 n62 n63 n g rs 10820768 hn) ⟨by decide, by decide⟩ ⟨by decide, by decide⟩ hl.1 rfl 12 rfl rfl rfl (Nat.le_of_ble_eq_true rfl) [12, 13] [0, 1, 2, 3, 4, 5, 6, 7, 8, 9, 10, 11] rfl rfl rfl rfl (by decide) dX12_readsAll_114 (fun r w1 H locs hq hw => ?_)
            obtain ⟨rfl, rfl⟩ := hq
            have hw : kW γ A ((mWa γ z10 z11 z12 z13 z14 z15 z16 z17 z18 z19 z22 z23 a) ++ (mWz γ z z2 z10 z11 z12 z13 z14 z15 z16 z17 z18 z19 z22 z23 z24 z25 z26 z27 z28 z29 z30 z31 z32 z33 z36 z37 z38 z39 z40 z41 z42 z43 z44 z45 z46 z47 z48 z55 z56 z59 z60 z61 n0 n1 n49 n50 n51 n52 n53 n54 n57 n58 n62 n63 g n rs)) s H locs := hw
            refine W.eq (g2 := F0 m 117 ls [.int (F_m_isWord g n rs 10820768)]) rfl ?_
            refine lv_if_eq (tgt := 131) hx hb dX12_readsAll_117 (by decide) (fun c_390 => ?_) (fun c_390 => ?_)
            · refine lv_aload_n hx hb dX12_readsAll_131 rfl (lv_at hl 0 rfl) ?_
              refine k_ldc2 hC gw_1438 dX12_readsAll_132 ?_
              refine k_V (wr := (mWa γ z10 z11 z12 z13 z14 z15 z16 z17 z18 z19 z22 z23 a)) 1 gw_1413 gw_1415 gp_56 gw_15 gw_1416 hd_X12_isWord hC hw (c_m_isWord γ l z z2 z10 z11 z12 z13 z14 z15 z16 z17 z18 z19 z22 z23 z24 z25 z26 z27 z28 z29 z30 z31 z32 z33 z36 z37 z38 z39 z40 z41 z42 z43 z44 z45 z46 z47 z48 z55 z56 z59 z60 z61 n0 n1 n49 n50 n51 n52 n53 n54 n57 n58 n62 n63 n g rs 370000 hn) ⟨by decide, by decide⟩ ⟨by decide, by decide⟩ hl.1 rfl 12 rfl rfl rfl (Nat.le_of_ble_eq_true rfl) [12, 13] [0, 1, 2, 3, 4, 5, 6, 7, 8, 9, 10, 11] rfl rfl rfl rfl (by decide) dX12_readsAll_135 (fun r w1 H locs hq hw => ?_)
              obtain ⟨rfl, rfl⟩ := hq
              have hw : kW γ A ((mWa γ z10 z11 z12 z13 z14 z15 z16 z17 z18 z19 z22 z23 a) ++ (mWz γ z z2 z10 z11 z12 z13 z14 z15 z16 z17 z18 z19 z22 z23 z24 z25 z26 z27 z28 z29 z30 z31 z32 z33 z36 z37 z38 z39 z40 z41 z42 z43 z44 z45 z46 z47 z48 z55 z56 z59 z60 z61 n0 n1 n49 n50 n51 n52 n53 n54 n57 n58 n62 n63 g n rs)) s H locs := hw
              refine W.eq (g2 := F0 m 138 ls [.int (F_m_isWord g n rs 370000)]) rfl ?_
              refine lv_if_eq (tgt := 152) hx hb dX12_readsAll_138 (by decide) (fun c_391 => ?_) (fun c_391 => ?_)
              · refine lv_aload_n hx hb dX12_readsAll_152 rfl (lv_at hl 0 rfl) ?_
                refine k_ldc2 hC gw_1439 dX12_readsAll_153 ?_
                refine k_V (wr := (mWa γ z10 z11 z12 z13 z14 z15 z16 z17 z18 z19 z22 z23 a)) 1 gw_1413 gw_1415 gp_56 gw_15 gw_1416 hd_X12_isWord hC hw (c_m_isWord γ l z z2 z10 z11 z12 z13 z14 z15 z16 z17 z18 z19 z22 z23 z24 z25 z26 z27 z28 z29 z30 z31 z32 z33 z36 z37 z38 z39 z40 z41 z42 z43 z44 z45 z46 z47 z48 z55 z56 z59 z60 z61 n0 n1 n49 n50 n51 n52 n53 n54 n57 n58 n62 n63 n g rs 79329434 hn) ⟨by decide, by decide⟩ ⟨by decide, by decide⟩ hl.1 rfl 12 rfl rfl rfl (Nat.le_of_ble_eq_true rfl) [12, 13] [0, 1, 2, 3, 4, 5, 6, 7, 8, 9, 10, 11] rfl rfl rfl rfl (by decide) dX12_readsAll_156 (fun r w1 H locs hq hw => ?_)
                obtain ⟨rfl, rfl⟩ := hq
                have hw : kW γ A ((mWa γ z10 z11 z12 z13 z14 z15 z16 z17 z18 z19 z22 z23 a) ++ (mWz γ z z2 z10 z11 z12 z13 z14 z15 z16 z17 z18 z19 z22 z23 z24 z25 z26 z27 z28 z29 z30 z31 z32 z33 z36 z37 z38 z39 z40 z41 z42 z43 z44 z45 z46 z47 z48 z55 z56 z59 z60 z61 n0 n1 n49 n50 n51 n52 n53 n54 n57 n58 n62 n63 g n rs)) s H locs := hw
                refine W.eq (g2 := F0 m 159 ls [.int (F_m_isWord g n rs 79329434)]) rfl ?_
                refine lv_if_eq (tgt := 173) hx hb dX12_readsAll_159 (by decide) (fun c_392 => ?_) (fun c_392 => ?_)
                · refine lv_aload_n hx hb dX12_readsAll_173 rfl (lv_at hl 0 rfl) ?_
                  refine k_ldc2 hC gw_1440 dX12_readsAll_174 ?_
                  refine k_V (wr := (mWa γ z10 z11 z12 z13 z14 z15 z16 z17 z18 z19 z22 z23 a)) 1 gw_1413 gw_1415 gp_56 gw_15 gw_1416 hd_X12_isWord hC hw (c_m_isWord γ l z z2 z10 z11 z12 z13 z14 z15 z16 z17 z18 z19 z22 z23 z24 z25 z26 z27 z28 z29 z30 z31 z32 z33 z36 z37 z38 z39 z40 z41 z42 z43 z44 z45 z46 z47 z48 z55 z56 z59 z60 z61 n0 n1 n49 n50 n51 n52 n53 n54 n57 n58 n62 n63 n g rs 3746728 hn) ⟨by decide, by decide⟩ ⟨by decide, by decide⟩ hl.1 rfl 12 rfl rfl rfl (Nat.le_of_ble_eq_true rfl) [12, 13] [0, 1, 2, 3, 4, 5, 6, 7, 8, 9, 10, 11] rfl rfl rfl rfl (by decide) dX12_readsAll_177 (fun r w1 H locs hq hw => ?_)
                  obtain ⟨rfl, rfl⟩ := hq
                  have hw : kW γ A ((mWa γ z10 z11 z12 z13 z14 z15 z16 z17 z18 z19 z22 z23 a) ++ (mWz γ z z2 z10 z11 z12 z13 z14 z15 z16 z17 z18 z19 z22 z23 z24 z25 z26 z27 z28 z29 z30 z31 z32 z33 z36 z37 z38 z39 z40 z41 z42 z43 z44 z45 z46 z47 z48 z55 z56 z59 z60 z61 n0 n1 n49 n50 n51 n52 n53 n54 n57 n58 n62 n63 g n rs)) s H locs := hw
                  refine W.eq (g2 := F0 m 180 ls [.int (F_m_isWord g n rs 3746728)]) rfl ?_
                  refine lv_if_eq (tgt := 191) hx hb dX12_readsAll_180 (by decide) (fun c_393 => ?_) (fun c_393 => ?_)
                  · refine lv_aload_n hx hb dX12_readsAll_191 rfl (lv_at hl 0 rfl) ?_
                    refine k_ldc2 hC gw_1441 dX12_readsAll_192 ?_
                    refine k_V (wr := (mWa γ z10 z11 z12 z13 z14 z15 z16 z17 z18 z19 z22 z23 a)) 1 gw_1413 gw_1415 gp_56 gw_15 gw_1416 hd_X12_isWord hC hw (c_m_isWord γ l z z2 z10 z11 z12 z13 z14 z15 z16 z17 z18 z19 z22 z23 z24 z25 z26 z27 z28 z29 z30 z31 z32 z33 z36 z37 z38 z39 z40 z41 z42 z43 z44 z45 z46 z47 z48 z55 z56 z59 z60 z61 n0 n1 n49 n50 n51 n52 n53 n54 n57 n58 n62 n63 n g rs 40187 hn) ⟨by decide, by decide⟩ ⟨by decide, by decide⟩ hl.1 rfl 12 rfl rfl rfl (Nat.le_of_ble_eq_true rfl) [12, 13] [0, 1, 2, 3, 4, 5, 6, 7, 8, 9, 10, 11] rfl rfl rfl rfl (by decide) dX12_readsAll_195 (fun r w1 H locs hq hw => ?_)
                    obtain ⟨rfl, rfl⟩ := hq
                    have hw : kW γ A ((mWa γ z10 z11 z12 z13 z14 z15 z16 z17 z18 z19 z22 z23 a) ++ (mWz γ z z2 z10 z11 z12 z13 z14 z15 z16 z17 z18 z19 z22 z23 z24 z25 z26 z27 z28 z29 z30 z31 z32 z33 z36 z37 z38 z39 z40 z41 z42 z43 z44 z45 z46 z47 z48 z55 z56 z59 z60 z61 n0 n1 n49 n50 n51 n52 n53 n54 n57 n58 n62 n63 g n rs)) s H locs := hw
                    refine W.eq (g2 := F0 m 198 ls [.int (F_m_isWord g n rs 40187)]) rfl ?_
                    refine lv_if_eq (tgt := 209) hx hb dX12_readsAll_198 (by decide) (fun c_394 => ?_) (fun c_394 => ?_)
                    · refine lv_aload_n hx hb dX12_readsAll_209 rfl (lv_at hl 0 rfl) ?_
                      refine lv_iconst (v := 1) hx hb dX12_readsAll_210 (by decide) ?_
                      refine k_V (wr := (mWa γ z10 z11 z12 z13 z14 z15 z16 z17 z18 z19 z22 z23 a)) 1 gw_1421 gw_1423 gp_58 gw_15 gw_1424 hd_X12_fails hC hw (c_m_fails γ l z z2 z10 z11 z12 z13 z14 z15 z16 z17 z18 z19 z22 z23 z24 z25 z26 z27 z28 z29 z30 z31 z32 z33 z36 z37 z38 z39 z40 z41 z42 z43 z44 z45 z46 z47 z48 z55 z56 z59 z60 z61 n0 n1 n49 n50 n51 n52 n53 n54 n57 n58 n62 n63 n g rs 1 hn) ⟨by decide, by decide⟩ ⟨by decide, by decide⟩ hl.1 rfl 12 rfl rfl rfl (Nat.le_of_ble_eq_true rfl) [12, 13] [0, 1, 2, 3, 4, 5, 6, 7, 8, 9, 10, 11] rfl rfl rfl rfl (by decide) dX12_readsAll_211 (fun r w1 H locs hq hw => ?_)
                      obtain ⟨rfl, rfl⟩ := hq
                      have hw : kW γ A ((mWa γ z10 z11 z12 z13 z14 z15 z16 z17 z18 z19 z22 z23 a) ++ (mWz γ z z2 z10 z11 z12 z13 z14 z15 z16 z17 z18 z19 z22 z23 z24 z25 z26 z27 z28 z29 z30 z31 z32 z33 z36 z37 z38 z39 z40 z41 z42 z43 z44 z45 z46 z47 z48 z55 z56 z59 z60 z61 n0 n1 n49 n50 n51 n52 n53 n54 n57 n58 n62 n63 g n (F_m_fails g n rs 1))) s H locs := hw
                      refine W.eq (g2 := F0 m 214 ls [.int 0]) rfl ?_
                      refine lv_istore_n (lv' := [(1, .int 0), (0, .ref z)]) hx hb dX12_readsAll_214 rfl hl (by decide) rfl (fun ls hl => ?_)
                      refine lv_iload_n hx hb dX12_readsAll_215 rfl (lv_at hl 0 rfl) ?_
                      refine lv_if_ne (tgt := 221) hx hb dX12_readsAll_216 (by decide) (fun h => absurd rfl h) (fun _ => ?_)
                      refine lv_iconst (v := 0) hx hb dX12_readsAll_219 (by decide) ?_
                      have hE : (F_m_rall g n (k + 1) rs a) = some (0, (F_m_fails g n rs 1), a) := by rw [F_m_rall_s, if_neg c_386, if_pos c_387, if_pos c_388, if_pos c_389, if_pos c_390, if_pos c_391, if_pos c_392, if_pos c_393, if_pos c_394]
                      have hE : res = (0, (F_m_fails g n rs 1), a) := Option.some.inj (hres.symm.trans hE)
                      have hw : kW γ A ((mWa γ z10 z11 z12 z13 z14 z15 z16 z17 z18 z19 z22 z23 (res.2.2)) ++ (mWz γ z z2 z10 z11 z12 z13 z14 z15 z16 z17 z18 z19 z22 z23 z24 z25 z26 z27 z28 z29 z30 z31 z32 z33 z36 z37 z38 z39 z40 z41 z42 z43 z44 z45 z46 z47 z48 z55 z56 z59 z60 z61 n0 n1 n49 n50 n51 n52 n53 n54 n57 n58 n62 n63 g n (res.2.1))) s H locs := by first | (rw [hE]; exact hw) | exact hw
                      exact k_zret hC hr hlocks rfl hw [12, 13, 0, 1, 2, 3, 4, 5, 6, 7, 8, 9, 10, 11] rfl rfl ⟨by rw [hE], rfl⟩ (by decide) (by decide) dX12_readsAll_220
                    · refine lv_aload_n hx hb dX12_readsAll_201 rfl (lv_at hl 0 rfl) ?_
                      refine lv_iconst (v := 1) hx hb dX12_readsAll_202 (by decide) ?_
                      refine k_V (wr := []) 1 gw_1495 gw_1497 gp_71 gw_15 gw_1498 hd_X12_readsLaw hC hw (c_m_readsLaw1 γ l z z2 z10 z11 z12 z13 z14 z15 z16 z17 z18 z19 z22 z23 z24 z25 z26 z27 z28 z29 z30 z31 z32 z33 z36 z37 z38 z39 z40 z41 z42 z43 z44 z45 z46 z47 z48 z55 z56 z59 z60 z61 n0 n1 n49 n50 n51 n52 n53 n54 n57 n58 n62 n63 n g rs a hn hcd) ⟨by decide, by decide⟩ ⟨by decide, by decide⟩ hl.1 rfl 12 rfl rfl rfl (Nat.le_of_ble_eq_true rfl) [12, 13, 0, 1, 2, 3, 4, 5, 6, 7, 8, 9, 10, 11] [] rfl rfl rfl rfl (by decide) dX12_readsAll_203 (fun r w1 H locs hq hw => ?_)
                      obtain ⟨rfl, rfl⟩ := hq
                      have hw : kW γ A ((mWz γ z z2 z10 z11 z12 z13 z14 z15 z16 z17 z18 z19 z22 z23 z24 z25 z26 z27 z28 z29 z30 z31 z32 z33 z36 z37 z38 z39 z40 z41 z42 z43 z44 z45 z46 z47 z48 z55 z56 z59 z60 z61 n0 n1 n49 n50 n51 n52 n53 n54 n57 n58 n62 n63 g n ((F_m_readsLaw1 g n rs a).2.1)) ++ (mWa γ z10 z11 z12 z13 z14 z15 z16 z17 z18 z19 z22 z23 ((F_m_readsLaw1 g n rs a).2.2))) s H locs := hw
                      refine W.eq (g2 := F0 m 206 ls [.int ((F_m_readsLaw1 g n rs a).1)]) rfl ?_
                      refine lv_goto (tgt := 214) hx hb dX12_readsAll_206 (by decide) ?_
                      refine lv_istore_n (lv' := [(1, .int ((F_m_readsLaw1 g n rs a).1)), (0, .ref z)]) hx hb dX12_readsAll_214 rfl hl (by decide) rfl (fun ls hl => ?_)
                      refine lv_iload_n hx hb dX12_readsAll_215 rfl (lv_at hl 0 rfl) ?_
                      refine lv_if_ne (tgt := 221) hx hb dX12_readsAll_216 (by decide) (fun c_395 => ?_) (fun c_395 => ?_)
                      · refine lv_goto (tgt := 52) hx hb dX12_readsAll_221 (by decide) ?_
                        have hE : (F_m_rall g n (k + 1) rs a) = (F_m_rall g n k ((F_m_readsLaw1 g n rs a).2.1) ((F_m_readsLaw1 g n rs a).2.2)) := by rw [F_m_rall_s, if_neg c_386, if_pos c_387, if_pos c_388, if_pos c_389, if_pos c_390, if_pos c_391, if_pos c_392, if_pos c_393, if_neg c_394, if_neg c_395]
                        exact ih ((F_m_readsLaw1 g n rs a).2.1) ((F_m_readsLaw1 g n rs a).2.2) res (hE.symm.trans hres) (ok_m_readsLaw1 hM) (mC_readsLaw1 hcd) _ _ (kW.sub hw [0, 1, 2, 3, 4, 5, 6, 7, 8, 9, 10, 11, 12, 13] rfl rfl) _ (lv_sub hl [1] rfl)
                      · refine lv_iconst (v := 0) hx hb dX12_readsAll_219 (by decide) ?_
                        have hE : (F_m_rall g n (k + 1) rs a) = some (0, ((F_m_readsLaw1 g n rs a).2.1), ((F_m_readsLaw1 g n rs a).2.2)) := by rw [F_m_rall_s, if_neg c_386, if_pos c_387, if_pos c_388, if_pos c_389, if_pos c_390, if_pos c_391, if_pos c_392, if_pos c_393, if_neg c_394, if_pos c_395]
                        have hE : res = (0, ((F_m_readsLaw1 g n rs a).2.1), ((F_m_readsLaw1 g n rs a).2.2)) := Option.some.inj (hres.symm.trans hE)
                        have hw : kW γ A ((mWz γ z z2 z10 z11 z12 z13 z14 z15 z16 z17 z18 z19 z22 z23 z24 z25 z26 z27 z28 z29 z30 z31 z32 z33 z36 z37 z38 z39 z40 z41 z42 z43 z44 z45 z46 z47 z48 z55 z56 z59 z60 z61 n0 n1 n49 n50 n51 n52 n53 n54 n57 n58 n62 n63 g n (res.2.1)) ++ (mWa γ z10 z11 z12 z13 z14 z15 z16 z17 z18 z19 z22 z23 (res.2.2))) s H locs := by first | (rw [hE]; exact hw) | exact hw
                        exact k_zret hC hr hlocks rfl hw [0, 1, 2, 3, 4, 5, 6, 7, 8, 9, 10, 11, 12, 13] rfl rfl ⟨by rw [hE], rfl⟩ (by decide) (by decide) dX12_readsAll_220
                  · refine lv_aload_n hx hb dX12_readsAll_183 rfl (lv_at hl 0 rfl) ?_
                    refine lv_iconst (v := 0) hx hb dX12_readsAll_184 (by decide) ?_
                    refine k_V (wr := []) 1 gw_1495 gw_1497 gp_71 gw_15 gw_1498 hd_X12_readsLaw hC hw (c_m_readsLaw0 γ l z z2 z10 z11 z12 z13 z14 z15 z16 z17 z18 z19 z22 z23 z24 z25 z26 z27 z28 z29 z30 z31 z32 z33 z36 z37 z38 z39 z40 z41 z42 z43 z44 z45 z46 z47 z48 z55 z56 z59 z60 z61 n0 n1 n49 n50 n51 n52 n53 n54 n57 n58 n62 n63 n g rs a hn hcd) ⟨by decide, by decide⟩ ⟨by decide, by decide⟩ hl.1 rfl 12 rfl rfl rfl (Nat.le_of_ble_eq_true rfl) [12, 13, 0, 1, 2, 3, 4, 5, 6, 7, 8, 9, 10, 11] [] rfl rfl rfl rfl (by decide) dX12_readsAll_185 (fun r w1 H locs hq hw => ?_)
                    obtain ⟨rfl, rfl⟩ := hq
                    have hw : kW γ A ((mWz γ z z2 z10 z11 z12 z13 z14 z15 z16 z17 z18 z19 z22 z23 z24 z25 z26 z27 z28 z29 z30 z31 z32 z33 z36 z37 z38 z39 z40 z41 z42 z43 z44 z45 z46 z47 z48 z55 z56 z59 z60 z61 n0 n1 n49 n50 n51 n52 n53 n54 n57 n58 n62 n63 g n ((F_m_readsLaw0 g n rs a).2.1)) ++ (mWa γ z10 z11 z12 z13 z14 z15 z16 z17 z18 z19 z22 z23 ((F_m_readsLaw0 g n rs a).2.2))) s H locs := hw
                    refine W.eq (g2 := F0 m 188 ls [.int ((F_m_readsLaw0 g n rs a).1)]) rfl ?_
                    refine lv_goto (tgt := 214) hx hb dX12_readsAll_188 (by decide) ?_
                    refine lv_istore_n (lv' := [(1, .int ((F_m_readsLaw0 g n rs a).1)), (0, .ref z)]) hx hb dX12_readsAll_214 rfl hl (by decide) rfl (fun ls hl => ?_)
                    refine lv_iload_n hx hb dX12_readsAll_215 rfl (lv_at hl 0 rfl) ?_
                    refine lv_if_ne (tgt := 221) hx hb dX12_readsAll_216 (by decide) (fun c_396 => ?_) (fun c_396 => ?_)
                    · refine lv_goto (tgt := 52) hx hb dX12_readsAll_221 (by decide) ?_
                      have hE : (F_m_rall g n (k + 1) rs a) = (F_m_rall g n k ((F_m_readsLaw0 g n rs a).2.1) ((F_m_readsLaw0 g n rs a).2.2)) := by rw [F_m_rall_s, if_neg c_386, if_pos c_387, if_pos c_388, if_pos c_389, if_pos c_390, if_pos c_391, if_pos c_392, if_neg c_393, if_neg c_396]
                      exact ih ((F_m_readsLaw0 g n rs a).2.1) ((F_m_readsLaw0 g n rs a).2.2) res (hE.symm.trans hres) (ok_m_readsLaw0 hM) (mC_readsLaw0 hcd) _ _ (kW.sub hw [0, 1, 2, 3, 4, 5, 6, 7, 8, 9, 10, 11, 12, 13] rfl rfl) _ (lv_sub hl [1] rfl)
                    · refine lv_iconst (v := 0) hx hb dX12_readsAll_219 (by decide) ?_
                      have hE : (F_m_rall g n (k + 1) rs a) = some (0, ((F_m_readsLaw0 g n rs a).2.1), ((F_m_readsLaw0 g n rs a).2.2)) := by rw [F_m_rall_s, if_neg c_386, if_pos c_387, if_pos c_388, if_pos c_389, if_pos c_390, if_pos c_391, if_pos c_392, if_neg c_393, if_pos c_396]
                      have hE : res = (0, ((F_m_readsLaw0 g n rs a).2.1), ((F_m_readsLaw0 g n rs a).2.2)) := Option.some.inj (hres.symm.trans hE)
                      have hw : kW γ A ((mWz γ z z2 z10 z11 z12 z13 z14 z15 z16 z17 z18 z19 z22 z23 z24 z25 z26 z27 z28 z29 z30 z31 z32 z33 z36 z37 z38 z39 z40 z41 z42 z43 z44 z45 z46 z47 z48 z55 z56 z59 z60 z61 n0 n1 n49 n50 n51 n52 n53 n54 n57 n58 n62 n63 g n (res.2.1)) ++ (mWa γ z10 z11 z12 z13 z14 z15 z16 z17 z18 z19 z22 z23 (res.2.2))) s H locs := by first | (rw [hE]; exact hw) | exact hw
                      exact k_zret hC hr hlocks rfl hw [0, 1, 2, 3, 4, 5, 6, 7, 8, 9, 10, 11, 12, 13] rfl rfl ⟨by rw [hE], rfl⟩ (by decide) (by decide) dX12_readsAll_220
                · refine lv_aload_n hx hb dX12_readsAll_162 rfl (lv_at hl 0 rfl) ?_
                  refine lv_iconst (v := 4) hx hb dX12_readsAll_163 (by decide) ?_
                  refine lv_iconst (v := 1) hx hb dX12_readsAll_164 (by decide) ?_
                  refine lv_bipush (v := 6) hx hb dX12_readsAll_165 (by decide) ?_
                  refine k_V (wr := []) 3 gw_1491 gw_1493 gp_70 gw_15 gw_1494 hd_X12_readsOne hC hw (c_m_readsOne4 γ l z z2 z10 z11 z12 z13 z14 z15 z16 z17 z18 z19 z22 z23 z24 z25 z26 z27 z28 z29 z30 z31 z32 z33 z36 z37 z38 z39 z40 z41 z42 z43 z44 z45 z46 z47 z48 z55 z56 z59 z60 z61 n0 n1 n49 n50 n51 n52 n53 n54 n57 n58 n62 n63 n g rs a 1 6 hn) ⟨by decide, by decide⟩ ⟨by decide, by decide⟩ hl.1 rfl 12 rfl rfl rfl (Nat.le_of_ble_eq_true rfl) [12, 13, 0, 1, 2, 3, 4, 5, 6, 7, 8, 9, 10, 11] [] rfl rfl rfl rfl (by decide) dX12_readsAll_167 (fun r w1 H locs hq hw => ?_)
                  obtain ⟨rfl, rfl⟩ := hq
                  have hw : kW γ A ((mWz γ z z2 z10 z11 z12 z13 z14 z15 z16 z17 z18 z19 z22 z23 z24 z25 z26 z27 z28 z29 z30 z31 z32 z33 z36 z37 z38 z39 z40 z41 z42 z43 z44 z45 z46 z47 z48 z55 z56 z59 z60 z61 n0 n1 n49 n50 n51 n52 n53 n54 n57 n58 n62 n63 g n ((F_m_readsOne4 g n rs a 1 6).2.1)) ++ (mWa γ z10 z11 z12 z13 z14 z15 z16 z17 z18 z19 z22 z23 ((F_m_readsOne4 g n rs a 1 6).2.2))) s H locs := hw
                  refine W.eq (g2 := F0 m 170 ls [.int ((F_m_readsOne4 g n rs a 1 6).1)]) rfl ?_
                  refine lv_goto (tgt := 214) hx hb dX12_readsAll_170 (by decide) ?_
                  refine lv_istore_n (lv' := [(1, .int ((F_m_readsOne4 g n rs a 1 6).1)), (0, .ref z)]) hx hb dX12_readsAll_214 rfl hl (by decide) rfl (fun ls hl => ?_)
                  refine lv_iload_n hx hb dX12_readsAll_215 rfl (lv_at hl 0 rfl) ?_
                  refine lv_if_ne (tgt := 221) hx hb dX12_readsAll_216 (by decide) (fun c_397 => ?_) (fun c_397 => ?_)
                  · refine lv_goto (tgt := 52) hx hb dX12_readsAll_221 (by decide) ?_
                    have hE : (F_m_rall g n (k + 1) rs a) = (F_m_rall g n k ((F_m_readsOne4 g n rs a 1 6).2.1) ((F_m_readsOne4 g n rs a 1 6).2.2)) := by rw [F_m_rall_s, if_neg c_386, if_pos c_387, if_pos c_388, if_pos c_389, if_pos c_390, if_pos c_391, if_neg c_392, if_neg c_397]
                    exact ih ((F_m_readsOne4 g n rs a 1 6).2.1) ((F_m_readsOne4 g n rs a 1 6).2.2) res (hE.symm.trans hres) (ok_m_readsOne4 hM) (mC_readsOne4 hcd) _ _ (kW.sub hw [0, 1, 2, 3, 4, 5, 6, 7, 8, 9, 10, 11, 12, 13] rfl rfl) _ (lv_sub hl [1] rfl)
                  · refine lv_iconst (v := 0) hx hb dX12_readsAll_219 (by decide) ?_
                    have hE : (F_m_rall g n (k + 1) rs a) = some (0, ((F_m_readsOne4 g n rs a 1 6).2.1), ((F_m_readsOne4 g n rs a 1 6).2.2)) := by rw [F_m_rall_s, if_neg c_386, if_pos c_387, if_pos c_388, if_pos c_389, if_pos c_390, if_pos c_391, if_neg c_392, if_pos c_397]
                    have hE : res = (0, ((F_m_readsOne4 g n rs a 1 6).2.1), ((F_m_readsOne4 g n rs a 1 6).2.2)) := Option.some.inj (hres.symm.trans hE)
                    have hw : kW γ A ((mWz γ z z2 z10 z11 z12 z13 z14 z15 z16 z17 z18 z19 z22 z23 z24 z25 z26 z27 z28 z29 z30 z31 z32 z33 z36 z37 z38 z39 z40 z41 z42 z43 z44 z45 z46 z47 z48 z55 z56 z59 z60 z61 n0 n1 n49 n50 n51 n52 n53 n54 n57 n58 n62 n63 g n (res.2.1)) ++ (mWa γ z10 z11 z12 z13 z14 z15 z16 z17 z18 z19 z22 z23 (res.2.2))) s H locs := by first | (rw [hE]; exact hw) | exact hw
                    exact k_zret hC hr hlocks rfl hw [0, 1, 2, 3, 4, 5, 6, 7, 8, 9, 10, 11, 12, 13] rfl rfl ⟨by rw [hE], rfl⟩ (by decide) (by decide) dX12_readsAll_220
              · refine lv_aload_n hx hb dX12_readsAll_141 rfl (lv_at hl 0 rfl) ?_
                refine lv_iconst (v := 3) hx hb dX12_readsAll_142 (by decide) ?_
                refine lv_iconst (v := 0) hx hb dX12_readsAll_143 (by decide) ?_
                refine lv_bipush (v := 20) hx hb dX12_readsAll_144 (by decide) ?_
                refine k_V (wr := []) 3 gw_1491 gw_1493 gp_70 gw_15 gw_1494 hd_X12_readsOne hC hw (c_m_readsOne3 γ l z z2 z10 z11 z12 z13 z14 z15 z16 z17 z18 z19 z22 z23 z24 z25 z26 z27 z28 z29 z30 z31 z32 z33 z36 z37 z38 z39 z40 z41 z42 z43 z44 z45 z46 z47 z48 z55 z56 z59 z60 z61 n0 n1 n49 n50 n51 n52 n53 n54 n57 n58 n62 n63 n g rs a 0 20 hn) ⟨by decide, by decide⟩ ⟨by decide, by decide⟩ hl.1 rfl 12 rfl rfl rfl (Nat.le_of_ble_eq_true rfl) [12, 13, 0, 1, 2, 3, 4, 5, 6, 7, 8, 9, 10, 11] [] rfl rfl rfl rfl (by decide) dX12_readsAll_146 (fun r w1 H locs hq hw => ?_)
                obtain ⟨rfl, rfl⟩ := hq
                have hw : kW γ A ((mWz γ z z2 z10 z11 z12 z13 z14 z15 z16 z17 z18 z19 z22 z23 z24 z25 z26 z27 z28 z29 z30 z31 z32 z33 z36 z37 z38 z39 z40 z41 z42 z43 z44 z45 z46 z47 z48 z55 z56 z59 z60 z61 n0 n1 n49 n50 n51 n52 n53 n54 n57 n58 n62 n63 g n ((F_m_readsOne3 g n rs a 0 20).2.1)) ++ (mWa γ z10 z11 z12 z13 z14 z15 z16 z17 z18 z19 z22 z23 ((F_m_readsOne3 g n rs a 0 20).2.2))) s H locs := hw
                refine W.eq (g2 := F0 m 149 ls [.int ((F_m_readsOne3 g n rs a 0 20).1)]) rfl ?_
                refine lv_goto (tgt := 214) hx hb dX12_readsAll_149 (by decide) ?_
                refine lv_istore_n (lv' := [(1, .int ((F_m_readsOne3 g n rs a 0 20).1)), (0, .ref z)]) hx hb dX12_readsAll_214 rfl hl (by decide) rfl (fun ls hl => ?_)
                refine lv_iload_n hx hb dX12_readsAll_215 rfl (lv_at hl 0 rfl) ?_
                refine lv_if_ne (tgt := 221) hx hb dX12_readsAll_216 (by decide) (fun c_398 => ?_) (fun c_398 => ?_)
                · refine lv_goto (tgt := 52) hx hb dX12_readsAll_221 (by decide) ?_
                  have hE : (F_m_rall g n (k + 1) rs a) = (F_m_rall g n k ((F_m_readsOne3 g n rs a 0 20).2.1) ((F_m_readsOne3 g n rs a 0 20).2.2)) := by rw [F_m_rall_s, if_neg c_386, if_pos c_387, if_pos c_388, if_pos c_389, if_pos c_390, if_neg c_391, if_neg c_398]
                  exact ih ((F_m_readsOne3 g n rs a 0 20).2.1) ((F_m_readsOne3 g n rs a 0 20).2.2) res (hE.symm.trans hres) (ok_m_readsOne3 hM) (mC_readsOne3 hcd) _ _ (kW.sub hw [0, 1, 2, 3, 4, 5, 6, 7, 8, 9, 10, 11, 12, 13] rfl rfl) _ (lv_sub hl [1] rfl)
                · refine lv_iconst (v := 0) hx hb dX12_readsAll_219 (by decide) ?_
                  have hE : (F_m_rall g n (k + 1) rs a) = some (0, ((F_m_readsOne3 g n rs a 0 20).2.1), ((F_m_readsOne3 g n rs a 0 20).2.2)) := by rw [F_m_rall_s, if_neg c_386, if_pos c_387, if_pos c_388, if_pos c_389, if_pos c_390, if_neg c_391, if_pos c_398]
                  have hE : res = (0, ((F_m_readsOne3 g n rs a 0 20).2.1), ((F_m_readsOne3 g n rs a 0 20).2.2)) := Option.some.inj (hres.symm.trans hE)
                  have hw : kW γ A ((mWz γ z z2 z10 z11 z12 z13 z14 z15 z16 z17 z18 z19 z22 z23 z24 z25 z26 z27 z28 z29 z30 z31 z32 z33 z36 z37 z38 z39 z40 z41 z42 z43 z44 z45 z46 z47 z48 z55 z56 z59 z60 z61 n0 n1 n49 n50 n51 n52 n53 n54 n57 n58 n62 n63 g n (res.2.1)) ++ (mWa γ z10 z11 z12 z13 z14 z15 z16 z17 z18 z19 z22 z23 (res.2.2))) s H locs := by first | (rw [hE]; exact hw) | exact hw
                  exact k_zret hC hr hlocks rfl hw [0, 1, 2, 3, 4, 5, 6, 7, 8, 9, 10, 11, 12, 13] rfl rfl ⟨by rw [hE], rfl⟩ (by decide) (by decide) dX12_readsAll_220
            · refine lv_aload_n hx hb dX12_readsAll_120 rfl (lv_at hl 0 rfl) ?_
              refine lv_iconst (v := 2) hx hb dX12_readsAll_121 (by decide) ?_
              refine lv_iconst (v := 2) hx hb dX12_readsAll_122 (by decide) ?_
              refine lv_bipush (v := 12) hx hb dX12_readsAll_123 (by decide) ?_
              refine k_V (wr := []) 3 gw_1491 gw_1493 gp_70 gw_15 gw_1494 hd_X12_readsOne hC hw (c_m_readsOne2 γ l z z2 z10 z11 z12 z13 z14 z15 z16 z17 z18 z19 z22 z23 z24 z25 z26 z27 z28 z29 z30 z31 z32 z33 z36 z37 z38 z39 z40 z41 z42 z43 z44 z45 z46 z47 z48 z55 z56 z59 z60 z61 n0 n1 n49 n50 n51 n52 n53 n54 n57 n58 n62 n63 n g rs a 2 12 hn) ⟨by decide, by decide⟩ ⟨by decide, by decide⟩ hl.1 rfl 12 rfl rfl rfl (Nat.le_of_ble_eq_true rfl) [12, 13, 0, 1, 2, 3, 4, 5, 6, 7, 8, 9, 10, 11] [] rfl rfl rfl rfl (by decide) dX12_readsAll_125 (fun r w1 H locs hq hw => ?_)
              obtain ⟨rfl, rfl⟩ := hq
              have hw : kW γ A ((mWz γ z z2 z10 z11 z12 z13 z14 z15 z16 z17 z18 z19 z22 z23 z24 z25 z26 z27 z28 z29 z30 z31 z32 z33 z36 z37 z38 z39 z40 z41 z42 z43 z44 z45 z46 z47 z48 z55 z56 z59 z60 z61 n0 n1 n49 n50 n51 n52 n53 n54 n57 n58 n62 n63 g n ((F_m_readsOne2 g n rs a 2 12).2.1)) ++ (mWa γ z10 z11 z12 z13 z14 z15 z16 z17 z18 z19 z22 z23 ((F_m_readsOne2 g n rs a 2 12).2.2))) s H locs := hw
              refine W.eq (g2 := F0 m 128 ls [.int ((F_m_readsOne2 g n rs a 2 12).1)]) rfl ?_
              refine lv_goto (tgt := 214) hx hb dX12_readsAll_128 (by decide) ?_
              refine lv_istore_n (lv' := [(1, .int ((F_m_readsOne2 g n rs a 2 12).1)), (0, .ref z)]) hx hb dX12_readsAll_214 rfl hl (by decide) rfl (fun ls hl => ?_)
              refine lv_iload_n hx hb dX12_readsAll_215 rfl (lv_at hl 0 rfl) ?_
              refine lv_if_ne (tgt := 221) hx hb dX12_readsAll_216 (by decide) (fun c_399 => ?_) (fun c_399 => ?_)
              · refine lv_goto (tgt := 52) hx hb dX12_readsAll_221 (by decide) ?_
                have hE : (F_m_rall g n (k + 1) rs a) = (F_m_rall g n k ((F_m_readsOne2 g n rs a 2 12).2.1) ((F_m_readsOne2 g n rs a 2 12).2.2)) := by rw [F_m_rall_s, if_neg c_386, if_pos c_387, if_pos c_388, if_pos c_389, if_neg c_390, if_neg c_399]
                exact ih ((F_m_readsOne2 g n rs a 2 12).2.1) ((F_m_readsOne2 g n rs a 2 12).2.2) res (hE.symm.trans hres) (ok_m_readsOne2 hM) (mC_readsOne2 hcd) _ _ (kW.sub hw [0, 1, 2, 3, 4, 5, 6, 7, 8, 9, 10, 11, 12, 13] rfl rfl) _ (lv_sub hl [1] rfl)
              · refine lv_iconst (v := 0) hx hb dX12_readsAll_219 (by decide) ?_
                have hE : (F_m_rall g n (k + 1) rs a) = some (0, ((F_m_readsOne2 g n rs a 2 12).2.1), ((F_m_readsOne2 g n rs a 2 12).2.2)) := by rw [F_m_rall_s, if_neg c_386, if_pos c_387, if_pos c_388, if_pos c_389, if_neg c_390, if_pos c_399]
                have hE : res = (0, ((F_m_readsOne2 g n rs a 2 12).2.1), ((F_m_readsOne2 g n rs a 2 12).2.2)) := Option.some.inj (hres.symm.trans hE)
                have hw : kW γ A ((mWz γ z z2 z10 z11 z12 z13 z14 z15 z16 z17 z18 z19 z22 z23 z24 z25 z26 z27 z28 z29 z30 z31 z32 z33 z36 z37 z38 z39 z40 z41 z42 z43 z44 z45 z46 z47 z48 z55 z56 z59 z60 z61 n0 n1 n49 n50 n51 n52 n53 n54 n57 n58 n62 n63 g n (res.2.1)) ++ (mWa γ z10 z11 z12 z13 z14 z15 z16 z17 z18 z19 z22 z23 (res.2.2))) s H locs := by first | (rw [hE]; exact hw) | exact hw
                exact k_zret hC hr hlocks rfl hw [0, 1, 2, 3, 4, 5, 6, 7, 8, 9, 10, 11, 12, 13] rfl rfl ⟨by rw [hE], rfl⟩ (by decide) (by decide) dX12_readsAll_220
          · refine lv_aload_n hx hb dX12_readsAll_103 rfl (lv_at hl 0 rfl) ?_
            refine k_V (wr := []) 0 gw_1487 gw_1489 gp_69 gw_15 gw_1490 hd_X12_readsTenant hC hw (c_m_readsTenant γ l z z2 z10 z11 z12 z13 z14 z15 z16 z17 z18 z19 z22 z23 z24 z25 z26 z27 z28 z29 z30 z31 z32 z33 z36 z37 z38 z39 z40 z41 z42 z43 z44 z45 z46 z47 z48 z55 z56 z59 z60 z61 n0 n1 n49 n50 n51 n52 n53 n54 n57 n58 n62 n63 n g rs a hn hM) ⟨by decide, by decide⟩ ⟨by decide, by decide⟩ hl.1 rfl 12 rfl rfl rfl (Nat.le_of_ble_eq_true rfl) [12, 13, 0, 1, 2, 3, 4, 5, 6, 7, 8, 9, 10, 11] [] rfl rfl rfl rfl (by decide) dX12_readsAll_104 (fun r w1 H locs hq hw => ?_)
            obtain ⟨rfl, rfl⟩ := hq
            have hw : kW γ A ((mWz γ z z2 z10 z11 z12 z13 z14 z15 z16 z17 z18 z19 z22 z23 z24 z25 z26 z27 z28 z29 z30 z31 z32 z33 z36 z37 z38 z39 z40 z41 z42 z43 z44 z45 z46 z47 z48 z55 z56 z59 z60 z61 n0 n1 n49 n50 n51 n52 n53 n54 n57 n58 n62 n63 g n ((F_m_readsTenant g n rs a).2.1)) ++ (mWa γ z10 z11 z12 z13 z14 z15 z16 z17 z18 z19 z22 z23 ((F_m_readsTenant g n rs a).2.2))) s H locs := hw
            refine W.eq (g2 := F0 m 107 ls [.int ((F_m_readsTenant g n rs a).1)]) rfl ?_
            refine lv_goto (tgt := 214) hx hb dX12_readsAll_107 (by decide) ?_
            refine lv_istore_n (lv' := [(1, .int ((F_m_readsTenant g n rs a).1)), (0, .ref z)]) hx hb dX12_readsAll_214 rfl hl (by decide) rfl (fun ls hl => ?_)
            refine lv_iload_n hx hb dX12_readsAll_215 rfl (lv_at hl 0 rfl) ?_
            refine lv_if_ne (tgt := 221) hx hb dX12_readsAll_216 (by decide) (fun c_400 => ?_) (fun c_400 => ?_)
            · refine lv_goto (tgt := 52) hx hb dX12_readsAll_221 (by decide) ?_
              have hE : (F_m_rall g n (k + 1) rs a) = (F_m_rall g n k ((F_m_readsTenant g n rs a).2.1) ((F_m_readsTenant g n rs a).2.2)) := by rw [F_m_rall_s, if_neg c_386, if_pos c_387, if_pos c_388, if_neg c_389, if_neg c_400]
              exact ih ((F_m_readsTenant g n rs a).2.1) ((F_m_readsTenant g n rs a).2.2) res (hE.symm.trans hres) (ok_m_readsTenant hM) (mC_readsTenant hcd) _ _ (kW.sub hw [0, 1, 2, 3, 4, 5, 6, 7, 8, 9, 10, 11, 12, 13] rfl rfl) _ (lv_sub hl [1] rfl)
            · refine lv_iconst (v := 0) hx hb dX12_readsAll_219 (by decide) ?_
              have hE : (F_m_rall g n (k + 1) rs a) = some (0, ((F_m_readsTenant g n rs a).2.1), ((F_m_readsTenant g n rs a).2.2)) := by rw [F_m_rall_s, if_neg c_386, if_pos c_387, if_pos c_388, if_neg c_389, if_pos c_400]
              have hE : res = (0, ((F_m_readsTenant g n rs a).2.1), ((F_m_readsTenant g n rs a).2.2)) := Option.some.inj (hres.symm.trans hE)
              have hw : kW γ A ((mWz γ z z2 z10 z11 z12 z13 z14 z15 z16 z17 z18 z19 z22 z23 z24 z25 z26 z27 z28 z29 z30 z31 z32 z33 z36 z37 z38 z39 z40 z41 z42 z43 z44 z45 z46 z47 z48 z55 z56 z59 z60 z61 n0 n1 n49 n50 n51 n52 n53 n54 n57 n58 n62 n63 g n (res.2.1)) ++ (mWa γ z10 z11 z12 z13 z14 z15 z16 z17 z18 z19 z22 z23 (res.2.2))) s H locs := by first | (rw [hE]; exact hw) | exact hw
              exact k_zret hC hr hlocks rfl hw [0, 1, 2, 3, 4, 5, 6, 7, 8, 9, 10, 11, 12, 13] rfl rfl ⟨by rw [hE], rfl⟩ (by decide) (by decide) dX12_readsAll_220
        · refine lv_aload_n hx hb dX12_readsAll_86 rfl (lv_at hl 0 rfl) ?_
          refine k_V (wr := []) 0 gw_1479 gw_1481 gp_67 gw_15 gw_1482 hd_X12_readsFollows hC hw (c_m_readsFollows γ l z z2 z10 z11 z12 z13 z14 z15 z16 z17 z18 z19 z22 z23 z24 z25 z26 z27 z28 z29 z30 z31 z32 z33 z36 z37 z38 z39 z40 z41 z42 z43 z44 z45 z46 z47 z48 z55 z56 z59 z60 z61 n0 n1 n49 n50 n51 n52 n53 n54 n57 n58 n62 n63 n g rs a hn hM) ⟨by decide, by decide⟩ ⟨by decide, by decide⟩ hl.1 rfl 12 rfl rfl rfl (Nat.le_of_ble_eq_true rfl) [12, 13, 0, 1, 2, 3, 4, 5, 6, 7, 8, 9, 10, 11] [] rfl rfl rfl rfl (by decide) dX12_readsAll_87 (fun r w1 H locs hq hw => ?_)
          obtain ⟨rfl, rfl⟩ := hq
          have hw : kW γ A ((mWz γ z z2 z10 z11 z12 z13 z14 z15 z16 z17 z18 z19 z22 z23 z24 z25 z26 z27 z28 z29 z30 z31 z32 z33 z36 z37 z38 z39 z40 z41 z42 z43 z44 z45 z46 z47 z48 z55 z56 z59 z60 z61 n0 n1 n49 n50 n51 n52 n53 n54 n57 n58 n62 n63 g n ((F_m_readsFollows g n rs a).2.1)) ++ (mWa γ z10 z11 z12 z13 z14 z15 z16 z17 z18 z19 z22 z23 ((F_m_readsFollows g n rs a).2.2))) s H locs := hw
          refine W.eq (g2 := F0 m 90 ls [.int ((F_m_readsFollows g n rs a).1)]) rfl ?_
          refine lv_goto (tgt := 214) hx hb dX12_readsAll_90 (by decide) ?_
          refine lv_istore_n (lv' := [(1, .int ((F_m_readsFollows g n rs a).1)), (0, .ref z)]) hx hb dX12_readsAll_214 rfl hl (by decide) rfl (fun ls hl => ?_)
          refine lv_iload_n hx hb dX12_readsAll_215 rfl (lv_at hl 0 rfl) ?_
          refine lv_if_ne (tgt := 221) hx hb dX12_readsAll_216 (by decide) (fun c_401 => ?_) (fun c_401 => ?_)
          · refine lv_goto (tgt := 52) hx hb dX12_readsAll_221 (by decide) ?_
            have hE : (F_m_rall g n (k + 1) rs a) = (F_m_rall g n k ((F_m_readsFollows g n rs a).2.1) ((F_m_readsFollows g n rs a).2.2)) := by rw [F_m_rall_s, if_neg c_386, if_pos c_387, if_neg c_388, if_neg c_401]
            exact ih ((F_m_readsFollows g n rs a).2.1) ((F_m_readsFollows g n rs a).2.2) res (hE.symm.trans hres) (ok_m_readsFollows hM) (mC_readsFollows hcd) _ _ (kW.sub hw [0, 1, 2, 3, 4, 5, 6, 7, 8, 9, 10, 11, 12, 13] rfl rfl) _ (lv_sub hl [1] rfl)
          · refine lv_iconst (v := 0) hx hb dX12_readsAll_219 (by decide) ?_
            have hE : (F_m_rall g n (k + 1) rs a) = some (0, ((F_m_readsFollows g n rs a).2.1), ((F_m_readsFollows g n rs a).2.2)) := by rw [F_m_rall_s, if_neg c_386, if_pos c_387, if_neg c_388, if_pos c_401]
            have hE : res = (0, ((F_m_readsFollows g n rs a).2.1), ((F_m_readsFollows g n rs a).2.2)) := Option.some.inj (hres.symm.trans hE)
            have hw : kW γ A ((mWz γ z z2 z10 z11 z12 z13 z14 z15 z16 z17 z18 z19 z22 z23 z24 z25 z26 z27 z28 z29 z30 z31 z32 z33 z36 z37 z38 z39 z40 z41 z42 z43 z44 z45 z46 z47 z48 z55 z56 z59 z60 z61 n0 n1 n49 n50 n51 n52 n53 n54 n57 n58 n62 n63 g n (res.2.1)) ++ (mWa γ z10 z11 z12 z13 z14 z15 z16 z17 z18 z19 z22 z23 (res.2.2))) s H locs := by first | (rw [hE]; exact hw) | exact hw
            exact k_zret hC hr hlocks rfl hw [0, 1, 2, 3, 4, 5, 6, 7, 8, 9, 10, 11, 12, 13] rfl rfl ⟨by rw [hE], rfl⟩ (by decide) (by decide) dX12_readsAll_220
      · refine lv_aload_n hx hb dX12_readsAll_69 rfl (lv_at hl 0 rfl) ?_
        refine k_V (wr := []) 0 gw_1417 gw_1419 gp_57 gw_15 gw_1420 hd_X12_readsThought hC hw (c_m_readsThought γ l z z2 z10 z11 z12 z13 z14 z15 z16 z17 z18 z19 z22 z23 z24 z25 z26 z27 z28 z29 z30 z31 z32 z33 z36 z37 z38 z39 z40 z41 z42 z43 z44 z45 z46 z47 z48 z55 z56 z59 z60 z61 n0 n1 n49 n50 n51 n52 n53 n54 n57 n58 n62 n63 n g rs a hn hM) ⟨by decide, by decide⟩ ⟨by decide, by decide⟩ hl.1 rfl 12 rfl rfl rfl (Nat.le_of_ble_eq_true rfl) [12, 13, 0, 1, 2, 3, 4, 5, 6, 7, 8, 9, 10, 11] [] rfl rfl rfl rfl (by decide) dX12_readsAll_70 (fun r w1 H locs hq hw => ?_)
        obtain ⟨rfl, rfl⟩ := hq
        have hw : kW γ A ((mWz γ z z2 z10 z11 z12 z13 z14 z15 z16 z17 z18 z19 z22 z23 z24 z25 z26 z27 z28 z29 z30 z31 z32 z33 z36 z37 z38 z39 z40 z41 z42 z43 z44 z45 z46 z47 z48 z55 z56 z59 z60 z61 n0 n1 n49 n50 n51 n52 n53 n54 n57 n58 n62 n63 g n ((F_m_readsThought g n rs a).2.1)) ++ (mWa γ z10 z11 z12 z13 z14 z15 z16 z17 z18 z19 z22 z23 ((F_m_readsThought g n rs a).2.2))) s H locs := hw
        refine W.eq (g2 := F0 m 73 ls [.int ((F_m_readsThought g n rs a).1)]) rfl ?_
        refine lv_goto (tgt := 214) hx hb dX12_readsAll_73 (by decide) ?_
        refine lv_istore_n (lv' := [(1, .int ((F_m_readsThought g n rs a).1)), (0, .ref z)]) hx hb dX12_readsAll_214 rfl hl (by decide) rfl (fun ls hl => ?_)
        refine lv_iload_n hx hb dX12_readsAll_215 rfl (lv_at hl 0 rfl) ?_
        refine lv_if_ne (tgt := 221) hx hb dX12_readsAll_216 (by decide) (fun c_402 => ?_) (fun c_402 => ?_)
        · refine lv_goto (tgt := 52) hx hb dX12_readsAll_221 (by decide) ?_
          have hE : (F_m_rall g n (k + 1) rs a) = (F_m_rall g n k ((F_m_readsThought g n rs a).2.1) ((F_m_readsThought g n rs a).2.2)) := by rw [F_m_rall_s, if_neg c_386, if_neg c_387, if_neg c_402]
          exact ih ((F_m_readsThought g n rs a).2.1) ((F_m_readsThought g n rs a).2.2) res (hE.symm.trans hres) (ok_m_readsThought hM) (mC_readsThought hcd) _ _ (kW.sub hw [0, 1, 2, 3, 4, 5, 6, 7, 8, 9, 10, 11, 12, 13] rfl rfl) _ (lv_sub hl [1] rfl)
        · refine lv_iconst (v := 0) hx hb dX12_readsAll_219 (by decide) ?_
          have hE : (F_m_rall g n (k + 1) rs a) = some (0, ((F_m_readsThought g n rs a).2.1), ((F_m_readsThought g n rs a).2.2)) := by rw [F_m_rall_s, if_neg c_386, if_neg c_387, if_pos c_402]
          have hE : res = (0, ((F_m_readsThought g n rs a).2.1), ((F_m_readsThought g n rs a).2.2)) := Option.some.inj (hres.symm.trans hE)
          have hw : kW γ A ((mWz γ z z2 z10 z11 z12 z13 z14 z15 z16 z17 z18 z19 z22 z23 z24 z25 z26 z27 z28 z29 z30 z31 z32 z33 z36 z37 z38 z39 z40 z41 z42 z43 z44 z45 z46 z47 z48 z55 z56 z59 z60 z61 n0 n1 n49 n50 n51 n52 n53 n54 n57 n58 n62 n63 g n (res.2.1)) ++ (mWa γ z10 z11 z12 z13 z14 z15 z16 z17 z18 z19 z22 z23 (res.2.2))) s H locs := by first | (rw [hE]; exact hw) | exact hw
          exact k_zret hC hr hlocks rfl hw [0, 1, 2, 3, 4, 5, 6, 7, 8, 9, 10, 11, 12, 13] rfl rfl ⟨by rw [hE], rfl⟩ (by decide) (by decide) dX12_readsAll_220

theorem ok_u {f : Nat → Int32} {b : ((Nat → Int64) × (Nat → Int64) × (Nat → Int32) × (Nat → Int32) × (Nat → Int32) × (Nat → Int32) × (Nat → Int32) × (Nat → Int32) × (Nat → Int32) × (Nat → Int32) × (Nat → Int32))} : mOK (F_m_usual1 f, b) := by
  show (0 ≤ (0 : Int32).toInt ∧ (0 : Int32).toInt ≤ 8) ∧ (0 ≤ (0 : Int32).toInt ∧ (0 : Int32).toInt ≤ 5)
  decide

set_option maxHeartbeats 4000000 in
set_option maxRecDepth 100000 in
theorem c_m_readsAll (γ : kΓ) (l : Launch) (z : Nat) (z2 : Nat) (z10 : Nat) (z11 : Nat) (z12 : Nat) (z13 : Nat) (z14 : Nat) (z15 : Nat) (z16 : Nat) (z17 : Nat) (z18 : Nat) (z19 : Nat) (z22 : Nat) (z23 : Nat) (z24 : Nat) (z25 : Nat) (z26 : Nat) (z27 : Nat) (z28 : Nat) (z29 : Nat) (z30 : Nat) (z31 : Nat) (z32 : Nat) (z33 : Nat) (z36 : Nat) (z37 : Nat) (z38 : Nat) (z39 : Nat) (z40 : Nat) (z41 : Nat) (z42 : Nat) (z43 : Nat) (z44 : Nat) (z45 : Nat) (z46 : Nat) (z47 : Nat) (z48 : Nat) (z55 : Nat) (z56 : Nat) (z59 : Nat) (z60 : Nat) (z61 : Nat) (n0 : Int32) (n3 : Int32) (n4 : Int32) (n5 : Int32) (n6 : Int32) (n7 : Int64) (n8 : Int32) (n9 : Int32) (n20 : Int32) (n21 : Int32) (n34 : Int32) (n35 : Int64) (n49 : Int32) (n50 : Int32) (n51 : Int32) (n52 : Int32) (n53 : Int32) (n54 : Int32) (n57 : Int32) (n58 : Int32) (n62 : Int32) (n63 : Int64) (n : Nat) (g : Nat → Int32) (a : mAS) (res : Int32 × mRS × mAS) (hn : n ≤ 1000) (hres : F_m_rall g n 1001 (n9, 0, n34, n35, 0, 1000) ((F_m_usual1 (a.1)), (a.2.1), (a.2.2.1), (a.2.2.2.1), (a.2.2.2.2.1), (a.2.2.2.2.2.1), (a.2.2.2.2.2.2.1), (upd (upd (a.2.2.2.2.2.2.2.1) 2 1000) 3 1000), (upd (upd (a.2.2.2.2.2.2.2.2.1) 2 1000) 3 1000), (a.2.2.2.2.2.2.2.2.2.1), (a.2.2.2.2.2.2.2.2.2.2.1), (a.2.2.2.2.2.2.2.2.2.2.2)) = some res) : kM γ l yX12_readsAll cX12_readsAll 2 ((some .boolean)) ({ frames := 5, cells := 0, slots := 0, locals := 128 } : Room) [.ref z] ([(z, .inr (11, [.int n0, .int (nI n), .ref z2, .int n3, .int n4, .int n5, .int n6, .long n7, .int n8, .int n9, .ref z10, .ref z11, .ref z12, .ref z13, .ref z14, .ref z15, .ref z16, .ref z17, .ref z18, .ref z19, .int n20, .int n21, .ref z22, .ref z23, .ref z24, .ref z25, .ref z26, .ref z27, .ref z28, .ref z29, .ref z30, .ref z31, .ref z32, .ref z33, .int n34, .long n35, .ref z36, .ref z37, .ref z38, .ref z39, .ref z40, .ref z41, .ref z42, .ref z43, .ref z44, .ref z45, .ref z46, .ref z47, .ref z48, .int n49, .int n50, .int n51, .int n52, .int n53, .int n54, .ref z55, .ref z56, .int n57, .int n58, .ref z59, .ref z60, .ref z61, .int n62, .long n63])), (z2, .inl (γ.2.1 0, 1000, .inl g))] ++ (mWa γ z10 z11 z12 z13 z14 z15 z16 z17 z18 z19 z22 z23 a)) (fun r w1 => r = some (.int (res.1)) ∧ w1 = ((mWz γ z z2 z10 z11 z12 z13 z14 z15 z16 z17 z18 z19 z22 z23 z24 z25 z26 z27 z28 z29 z30 z31 z32 z33 z36 z37 z38 z39 z40 z41 z42 z43 z44 z45 z46 z47 z48 z55 z56 z59 z60 z61 n0 0 n49 n50 n51 n52 n53 n54 n57 n58 n62 n63 g n (res.2.1)) ++ (mWa γ z10 z11 z12 z13 z14 z15 z16 z17 z18 z19 z22 z23 (res.2.2)))) := by
  refine k_ofW (by decide) (Nat.le_of_ble_eq_true rfl) ?_
  intro p9 e s m below meth c A ls hC hr hlocks hname hw hl
  have hx := hC.1
  have hb := hC.2.1
  have hl : lv_has ls 2 [(0, .ref z)] := hl
  refine lv_aload_n hx hb dX12_readsAll_0 rfl (lv_at hl 0 rfl) ?_
  refine lv_iconst (v := 1) hx hb dX12_readsAll_1 (by decide) ?_
  refine k_V (wr := [(z2, .inl (γ.2.1 0, 1000, .inl g)), (z11, .inl (γ.2.1 1, 16, .inr (.inl (a.2.1)))), (z12, .inl (γ.2.1 1, 10, .inr (.inl (a.2.2.1)))), (z13, .inl (γ.2.1 0, 16, .inl (a.2.2.2.1))), (z14, .inl (γ.2.1 0, 16, .inl (a.2.2.2.2.1))), (z15, .inl (γ.2.1 0, 16, .inl (a.2.2.2.2.2.1))), (z16, .inl (γ.2.1 0, 10, .inl (a.2.2.2.2.2.2.1))), (z17, .inl (γ.2.1 0, 4, .inl (a.2.2.2.2.2.2.2.1))), (z18, .inl (γ.2.1 0, 4, .inl (a.2.2.2.2.2.2.2.2.1))), (z19, .inl (γ.2.1 0, 2000, .inl (a.2.2.2.2.2.2.2.2.2.1))), (z22, .inl (γ.2.1 0, 7, .inl (a.2.2.2.2.2.2.2.2.2.2.1))), (z23, .inl (γ.2.1 3, 7, .inl (a.2.2.2.2.2.2.2.2.2.2.2)))]) 1 gw_1188 gw_1190 gp_51 gw_15 gw_1191 hd_X12_usual hC hw (c_m_usual1 γ l z z2 z10 z11 z12 z13 z14 z15 z16 z17 z18 z19 z22 z23 z24 z25 z26 z27 z28 z29 z30 z31 z32 z33 z36 z37 z38 z39 z40 z41 z42 z43 z44 z45 z46 z47 z48 z55 z56 z59 z60 z61 n0 (nI n) n3 n4 n5 n6 n7 n8 n9 n20 n21 n34 n35 n49 n50 n51 n52 n53 n54 n57 n58 n62 n63 (a.1)) ⟨by decide, by decide⟩ ⟨by decide, by decide⟩ hl.1 rfl 0 rfl rfl rfl (Nat.le_of_ble_eq_true rfl) [0, 2] [1, 3, 4, 5, 6, 7, 8, 9, 10, 11, 12, 13] rfl rfl rfl rfl (by decide) dX12_readsAll_2 (fun r w1 H locs hq hw => ?_)
  obtain ⟨rfl, rfl⟩ := hq
  have hw : kW γ A [(z2, .inl (γ.2.1 0, 1000, .inl g)), (z11, .inl (γ.2.1 1, 16, .inr (.inl (a.2.1)))), (z12, .inl (γ.2.1 1, 10, .inr (.inl (a.2.2.1)))), (z13, .inl (γ.2.1 0, 16, .inl (a.2.2.2.1))), (z14, .inl (γ.2.1 0, 16, .inl (a.2.2.2.2.1))), (z15, .inl (γ.2.1 0, 16, .inl (a.2.2.2.2.2.1))), (z16, .inl (γ.2.1 0, 10, .inl (a.2.2.2.2.2.2.1))), (z17, .inl (γ.2.1 0, 4, .inl (a.2.2.2.2.2.2.2.1))), (z18, .inl (γ.2.1 0, 4, .inl (a.2.2.2.2.2.2.2.2.1))), (z19, .inl (γ.2.1 0, 2000, .inl (a.2.2.2.2.2.2.2.2.2.1))), (z22, .inl (γ.2.1 0, 7, .inl (a.2.2.2.2.2.2.2.2.2.2.1))), (z23, .inl (γ.2.1 3, 7, .inl (a.2.2.2.2.2.2.2.2.2.2.2))), (z, .inr (11, [.int n0, .int (nI n), .ref z2, .int n3, .int n4, .int n5, .int n6, .long n7, .int n8, .int n9, .ref z10, .ref z11, .ref z12, .ref z13, .ref z14, .ref z15, .ref z16, .ref z17, .ref z18, .ref z19, .int n20, .int n21, .ref z22, .ref z23, .ref z24, .ref z25, .ref z26, .ref z27, .ref z28, .ref z29, .ref z30, .ref z31, .ref z32, .ref z33, .int n34, .long n35, .ref z36, .ref z37, .ref z38, .ref z39, .ref z40, .ref z41, .ref z42, .ref z43, .ref z44, .ref z45, .ref z46, .ref z47, .ref z48, .int n49, .int n50, .int n51, .int n52, .int n53, .int n54, .ref z55, .ref z56, .int n57, .int n58, .ref z59, .ref z60, .ref z61, .int n62, .long n63])), (z10, .inl (γ.2.1 0, 10, .inl (F_m_usual1 (a.1))))] s H locs := hw
  refine W.eq (g2 := F0 m 5 ls []) rfl ?_
  refine lv_iconst (v := 2) hx hb dX12_readsAll_5 (by decide) ?_
  refine lv_istore_n (lv' := [(1, .int 2), (0, .ref z)]) hx hb dX12_readsAll_6 rfl hl (by decide) rfl (fun ls hl => ?_)
  refine lv_iload_n hx hb dX12_readsAll_7 rfl (lv_at hl 0 rfl) ?_
  refine lv_iconst (v := 4) hx hb dX12_readsAll_8 (by decide) ?_
  refine lv_icmp_ge (tgt := 36) hx hb dX12_readsAll_9 (by decide) (fun h => absurd h (by decide)) (fun _ => ?_)
  refine lv_aload_n hx hb dX12_readsAll_12 rfl (lv_at hl 1 rfl) ?_
  refine fg_RX12_35 hC hw 12 rfl rfl dX12_readsAll_13 ?_
  refine lv_iload_n hx hb dX12_readsAll_16 rfl (lv_at hl 0 rfl) ?_
  refine lv_sipush (v := 1000) hx hb dX12_readsAll_17 (by decide) ?_
  refine k_iast hC hw 7 rfl (k_in0 (by decide)) dX12_readsAll_20 (fun H locs hw => ?_)
  have hw : kW γ A [(z2, .inl (γ.2.1 0, 1000, .inl g)), (z11, .inl (γ.2.1 1, 16, .inr (.inl (a.2.1)))), (z12, .inl (γ.2.1 1, 10, .inr (.inl (a.2.2.1)))), (z13, .inl (γ.2.1 0, 16, .inl (a.2.2.2.1))), (z14, .inl (γ.2.1 0, 16, .inl (a.2.2.2.2.1))), (z15, .inl (γ.2.1 0, 16, .inl (a.2.2.2.2.2.1))), (z16, .inl (γ.2.1 0, 10, .inl (a.2.2.2.2.2.2.1))), (z17, .inl (γ.2.1 0, 4, .inl (upd (a.2.2.2.2.2.2.2.1) 2 1000))), (z18, .inl (γ.2.1 0, 4, .inl (a.2.2.2.2.2.2.2.2.1))), (z19, .inl (γ.2.1 0, 2000, .inl (a.2.2.2.2.2.2.2.2.2.1))), (z22, .inl (γ.2.1 0, 7, .inl (a.2.2.2.2.2.2.2.2.2.2.1))), (z23, .inl (γ.2.1 3, 7, .inl (a.2.2.2.2.2.2.2.2.2.2.2))), (z, .inr (11, [.int n0, .int (nI n), .ref z2, .int n3, .int n4, .int n5, .int n6, .long n7, .int n8, .int n9, .ref z10, .ref z11, .ref z12, .ref z13, .ref z14, .ref z15, .ref z16, .ref z17, .ref z18, .ref z19, .int n20, .int n21, .ref z22, .ref z23, .ref z24, .ref z25, .ref z26, .ref z27, .ref z28, .ref z29, .ref z30, .ref z31, .ref z32, .ref z33, .int n34, .long n35, .ref z36, .ref z37, .ref z38, .ref z39, .ref z40, .ref z41, .ref z42, .ref z43, .ref z44, .ref z45, .ref z46, .ref z47, .ref z48, .int n49, .int n50, .int n51, .int n52, .int n53, .int n54, .ref z55, .ref z56, .int n57, .int n58, .ref z59, .ref z60, .ref z61, .int n62, .long n63])), (z10, .inl (γ.2.1 0, 10, .inl (F_m_usual1 (a.1))))] s H locs := hw
  refine lv_aload_n hx hb dX12_readsAll_21 rfl (lv_at hl 1 rfl) ?_
  refine fg_RX12_38 hC hw 12 rfl rfl dX12_readsAll_22 ?_
  refine lv_iload_n hx hb dX12_readsAll_25 rfl (lv_at hl 0 rfl) ?_
  refine lv_sipush (v := 1000) hx hb dX12_readsAll_26 (by decide) ?_
  refine k_iast hC hw 8 rfl (k_in0 (by decide)) dX12_readsAll_29 (fun H locs hw => ?_)
  have hw : kW γ A [(z2, .inl (γ.2.1 0, 1000, .inl g)), (z11, .inl (γ.2.1 1, 16, .inr (.inl (a.2.1)))), (z12, .inl (γ.2.1 1, 10, .inr (.inl (a.2.2.1)))), (z13, .inl (γ.2.1 0, 16, .inl (a.2.2.2.1))), (z14, .inl (γ.2.1 0, 16, .inl (a.2.2.2.2.1))), (z15, .inl (γ.2.1 0, 16, .inl (a.2.2.2.2.2.1))), (z16, .inl (γ.2.1 0, 10, .inl (a.2.2.2.2.2.2.1))), (z17, .inl (γ.2.1 0, 4, .inl (upd (a.2.2.2.2.2.2.2.1) 2 1000))), (z18, .inl (γ.2.1 0, 4, .inl (upd (a.2.2.2.2.2.2.2.2.1) 2 1000))), (z19, .inl (γ.2.1 0, 2000, .inl (a.2.2.2.2.2.2.2.2.2.1))), (z22, .inl (γ.2.1 0, 7, .inl (a.2.2.2.2.2.2.2.2.2.2.1))), (z23, .inl (γ.2.1 3, 7, .inl (a.2.2.2.2.2.2.2.2.2.2.2))), (z, .inr (11, [.int n0, .int (nI n), .ref z2, .int n3, .int n4, .int n5, .int n6, .long n7, .int n8, .int n9, .ref z10, .ref z11, .ref z12, .ref z13, .ref z14, .ref z15, .ref z16, .ref z17, .ref z18, .ref z19, .int n20, .int n21, .ref z22, .ref z23, .ref z24, .ref z25, .ref z26, .ref z27, .ref z28, .ref z29, .ref z30, .ref z31, .ref z32, .ref z33, .int n34, .long n35, .ref z36, .ref z37, .ref z38, .ref z39, .ref z40, .ref z41, .ref z42, .ref z43, .ref z44, .ref z45, .ref z46, .ref z47, .ref z48, .int n49, .int n50, .int n51, .int n52, .int n53, .int n54, .ref z55, .ref z56, .int n57, .int n58, .ref z59, .ref z60, .ref z61, .int n62, .long n63])), (z10, .inl (γ.2.1 0, 10, .inl (F_m_usual1 (a.1))))] s H locs := hw
  refine lv_iinc (v := 3) (lv' := [(1, .int 3), (0, .ref z)]) hx hb dX12_readsAll_30 hl (k := 0) rfl (by decide) (by decide) rfl (fun ls hl => ?_)
  refine lv_goto (tgt := 7) hx hb dX12_readsAll_33 (by decide) ?_
  refine lv_iload_n hx hb dX12_readsAll_7 rfl (lv_at hl 0 rfl) ?_
  refine lv_iconst (v := 4) hx hb dX12_readsAll_8 (by decide) ?_
  refine lv_icmp_ge (tgt := 36) hx hb dX12_readsAll_9 (by decide) (fun h => absurd h (by decide)) (fun _ => ?_)
  refine lv_aload_n hx hb dX12_readsAll_12 rfl (lv_at hl 1 rfl) ?_
  refine fg_RX12_35 hC hw 12 rfl rfl dX12_readsAll_13 ?_
  refine lv_iload_n hx hb dX12_readsAll_16 rfl (lv_at hl 0 rfl) ?_
  refine lv_sipush (v := 1000) hx hb dX12_readsAll_17 (by decide) ?_
  refine k_iast hC hw 7 rfl (k_in0 (by decide)) dX12_readsAll_20 (fun H locs hw => ?_)
  have hw : kW γ A [(z2, .inl (γ.2.1 0, 1000, .inl g)), (z11, .inl (γ.2.1 1, 16, .inr (.inl (a.2.1)))), (z12, .inl (γ.2.1 1, 10, .inr (.inl (a.2.2.1)))), (z13, .inl (γ.2.1 0, 16, .inl (a.2.2.2.1))), (z14, .inl (γ.2.1 0, 16, .inl (a.2.2.2.2.1))), (z15, .inl (γ.2.1 0, 16, .inl (a.2.2.2.2.2.1))), (z16, .inl (γ.2.1 0, 10, .inl (a.2.2.2.2.2.2.1))), (z17, .inl (γ.2.1 0, 4, .inl (upd (upd (a.2.2.2.2.2.2.2.1) 2 1000) 3 1000))), (z18, .inl (γ.2.1 0, 4, .inl (upd (a.2.2.2.2.2.2.2.2.1) 2 1000))), (z19, .inl (γ.2.1 0, 2000, .inl (a.2.2.2.2.2.2.2.2.2.1))), (z22, .inl (γ.2.1 0, 7, .inl (a.2.2.2.2.2.2.2.2.2.2.1))), (z23, .inl (γ.2.1 3, 7, .inl (a.2.2.2.2.2.2.2.2.2.2.2))), (z, .inr (11, [.int n0, .int (nI n), .ref z2, .int n3, .int n4, .int n5, .int n6, .long n7, .int n8, .int n9, .ref z10, .ref z11, .ref z12, .ref z13, .ref z14, .ref z15, .ref z16, .ref z17, .ref z18, .ref z19, .int n20, .int n21, .ref z22, .ref z23, .ref z24, .ref z25, .ref z26, .ref z27, .ref z28, .ref z29, .ref z30, .ref z31, .ref z32, .ref z33, .int n34, .long n35, .ref z36, .ref z37, .ref z38, .ref z39, .ref z40, .ref z41, .ref z42, .ref z43, .ref z44, .ref z45, .ref z46, .ref z47, .ref z48, .int n49, .int n50, .int n51, .int n52, .int n53, .int n54, .ref z55, .ref z56, .int n57, .int n58, .ref z59, .ref z60, .ref z61, .int n62, .long n63])), (z10, .inl (γ.2.1 0, 10, .inl (F_m_usual1 (a.1))))] s H locs := hw
  refine lv_aload_n hx hb dX12_readsAll_21 rfl (lv_at hl 1 rfl) ?_
  refine fg_RX12_38 hC hw 12 rfl rfl dX12_readsAll_22 ?_
  refine lv_iload_n hx hb dX12_readsAll_25 rfl (lv_at hl 0 rfl) ?_
  refine lv_sipush (v := 1000) hx hb dX12_readsAll_26 (by decide) ?_
  refine k_iast hC hw 8 rfl (k_in0 (by decide)) dX12_readsAll_29 (fun H locs hw => ?_)
  have hw : kW γ A [(z2, .inl (γ.2.1 0, 1000, .inl g)), (z11, .inl (γ.2.1 1, 16, .inr (.inl (a.2.1)))), (z12, .inl (γ.2.1 1, 10, .inr (.inl (a.2.2.1)))), (z13, .inl (γ.2.1 0, 16, .inl (a.2.2.2.1))), (z14, .inl (γ.2.1 0, 16, .inl (a.2.2.2.2.1))), (z15, .inl (γ.2.1 0, 16, .inl (a.2.2.2.2.2.1))), (z16, .inl (γ.2.1 0, 10, .inl (a.2.2.2.2.2.2.1))), (z17, .inl (γ.2.1 0, 4, .inl (upd (upd (a.2.2.2.2.2.2.2.1) 2 1000) 3 1000))), (z18, .inl (γ.2.1 0, 4, .inl (upd (upd (a.2.2.2.2.2.2.2.2.1) 2 1000) 3 1000))), (z19, .inl (γ.2.1 0, 2000, .inl (a.2.2.2.2.2.2.2.2.2.1))), (z22, .inl (γ.2.1 0, 7, .inl (a.2.2.2.2.2.2.2.2.2.2.1))), (z23, .inl (γ.2.1 3, 7, .inl (a.2.2.2.2.2.2.2.2.2.2.2))), (z, .inr (11, [.int n0, .int (nI n), .ref z2, .int n3, .int n4, .int n5, .int n6, .long n7, .int n8, .int n9, .ref z10, .ref z11, .ref z12, .ref z13, .ref z14, .ref z15, .ref z16, .ref z17, .ref z18, .ref z19, .int n20, .int n21, .ref z22, .ref z23, .ref z24, .ref z25, .ref z26, .ref z27, .ref z28, .ref z29, .ref z30, .ref z31, .ref z32, .ref z33, .int n34, .long n35, .ref z36, .ref z37, .ref z38, .ref z39, .ref z40, .ref z41, .ref z42, .ref z43, .ref z44, .ref z45, .ref z46, .ref z47, .ref z48, .int n49, .int n50, .int n51, .int n52, .int n53, .int n54, .ref z55, .ref z56, .int n57, .int n58, .ref z59, .ref z60, .ref z61, .int n62, .long n63])), (z10, .inl (γ.2.1 0, 10, .inl (F_m_usual1 (a.1))))] s H locs := hw
  refine lv_iinc (v := 4) (lv' := [(1, .int 4), (0, .ref z)]) hx hb dX12_readsAll_30 hl (k := 0) rfl (by decide) (by decide) rfl (fun ls hl => ?_)
  refine lv_goto (tgt := 7) hx hb dX12_readsAll_33 (by decide) ?_
  refine lv_iload_n hx hb dX12_readsAll_7 rfl (lv_at hl 0 rfl) ?_
  refine lv_iconst (v := 4) hx hb dX12_readsAll_8 (by decide) ?_
  refine lv_icmp_ge (tgt := 36) hx hb dX12_readsAll_9 (by decide) (fun _ => ?_) (fun h => absurd (by decide) h)
  refine lv_aload_n hx hb dX12_readsAll_36 rfl (lv_at hl 1 rfl) ?_
  refine lv_iconst (v := 0) hx hb dX12_readsAll_37 (by decide) ?_
  refine fs_RX12_299 hC hw 12 rfl rfl rfl (Nat.le_of_ble_eq_true rfl) dX12_readsAll_38 (fun H locs hw => ?_)
  have hw : kW γ A [(z2, .inl (γ.2.1 0, 1000, .inl g)), (z11, .inl (γ.2.1 1, 16, .inr (.inl (a.2.1)))), (z12, .inl (γ.2.1 1, 10, .inr (.inl (a.2.2.1)))), (z13, .inl (γ.2.1 0, 16, .inl (a.2.2.2.1))), (z14, .inl (γ.2.1 0, 16, .inl (a.2.2.2.2.1))), (z15, .inl (γ.2.1 0, 16, .inl (a.2.2.2.2.2.1))), (z16, .inl (γ.2.1 0, 10, .inl (a.2.2.2.2.2.2.1))), (z17, .inl (γ.2.1 0, 4, .inl (upd (upd (a.2.2.2.2.2.2.2.1) 2 1000) 3 1000))), (z18, .inl (γ.2.1 0, 4, .inl (upd (upd (a.2.2.2.2.2.2.2.2.1) 2 1000) 3 1000))), (z19, .inl (γ.2.1 0, 2000, .inl (a.2.2.2.2.2.2.2.2.2.1))), (z22, .inl (γ.2.1 0, 7, .inl (a.2.2.2.2.2.2.2.2.2.2.1))), (z23, .inl (γ.2.1 3, 7, .inl (a.2.2.2.2.2.2.2.2.2.2.2))), (z, .inr (11, [.int n0, .int (nI n), .ref z2, .int n3, .int n4, .int n5, .int n6, .long n7, .int n8, .int n9, .ref z10, .ref z11, .ref z12, .ref z13, .ref z14, .ref z15, .ref z16, .ref z17, .ref z18, .ref z19, .int n20, .int 0, .ref z22, .ref z23, .ref z24, .ref z25, .ref z26, .ref z27, .ref z28, .ref z29, .ref z30, .ref z31, .ref z32, .ref z33, .int n34, .long n35, .ref z36, .ref z37, .ref z38, .ref z39, .ref z40, .ref z41, .ref z42, .ref z43, .ref z44, .ref z45, .ref z46, .ref z47, .ref z48, .int n49, .int n50, .int n51, .int n52, .int n53, .int n54, .ref z55, .ref z56, .int n57, .int n58, .ref z59, .ref z60, .ref z61, .int n62, .long n63])), (z10, .inl (γ.2.1 0, 10, .inl (F_m_usual1 (a.1))))] s H locs := hw
  refine lv_aload_n hx hb dX12_readsAll_41 rfl (lv_at hl 1 rfl) ?_
  refine lv_sipush (v := 1000) hx hb dX12_readsAll_42 (by decide) ?_
  refine fs_RX12_181 hC hw 12 rfl rfl rfl (Nat.le_of_ble_eq_true rfl) dX12_readsAll_45 (fun H locs hw => ?_)
  have hw : kW γ A [(z2, .inl (γ.2.1 0, 1000, .inl g)), (z11, .inl (γ.2.1 1, 16, .inr (.inl (a.2.1)))), (z12, .inl (γ.2.1 1, 10, .inr (.inl (a.2.2.1)))), (z13, .inl (γ.2.1 0, 16, .inl (a.2.2.2.1))), (z14, .inl (γ.2.1 0, 16, .inl (a.2.2.2.2.1))), (z15, .inl (γ.2.1 0, 16, .inl (a.2.2.2.2.2.1))), (z16, .inl (γ.2.1 0, 10, .inl (a.2.2.2.2.2.2.1))), (z17, .inl (γ.2.1 0, 4, .inl (upd (upd (a.2.2.2.2.2.2.2.1) 2 1000) 3 1000))), (z18, .inl (γ.2.1 0, 4, .inl (upd (upd (a.2.2.2.2.2.2.2.2.1) 2 1000) 3 1000))), (z19, .inl (γ.2.1 0, 2000, .inl (a.2.2.2.2.2.2.2.2.2.1))), (z22, .inl (γ.2.1 0, 7, .inl (a.2.2.2.2.2.2.2.2.2.2.1))), (z23, .inl (γ.2.1 3, 7, .inl (a.2.2.2.2.2.2.2.2.2.2.2))), (z, .inr (11, [.int n0, .int (nI n), .ref z2, .int n3, .int n4, .int n5, .int n6, .long n7, .int n8, .int n9, .ref z10, .ref z11, .ref z12, .ref z13, .ref z14, .ref z15, .ref z16, .ref z17, .ref z18, .ref z19, .int 1000, .int 0, .ref z22, .ref z23, .ref z24, .ref z25, .ref z26, .ref z27, .ref z28, .ref z29, .ref z30, .ref z31, .ref z32, .ref z33, .int n34, .long n35, .ref z36, .ref z37, .ref z38, .ref z39, .ref z40, .ref z41, .ref z42, .ref z43, .ref z44, .ref z45, .ref z46, .ref z47, .ref z48, .int n49, .int n50, .int n51, .int n52, .int n53, .int n54, .ref z55, .ref z56, .int n57, .int n58, .ref z59, .ref z60, .ref z61, .int n62, .long n63])), (z10, .inl (γ.2.1 0, 10, .inl (F_m_usual1 (a.1))))] s H locs := hw
  refine lv_aload_n hx hb dX12_readsAll_48 rfl (lv_at hl 1 rfl) ?_
  refine k_V (wr := [(z11, .inl (γ.2.1 1, 16, .inr (.inl (a.2.1)))), (z12, .inl (γ.2.1 1, 10, .inr (.inl (a.2.2.1)))), (z13, .inl (γ.2.1 0, 16, .inl (a.2.2.2.1))), (z14, .inl (γ.2.1 0, 16, .inl (a.2.2.2.2.1))), (z15, .inl (γ.2.1 0, 16, .inl (a.2.2.2.2.2.1))), (z16, .inl (γ.2.1 0, 10, .inl (a.2.2.2.2.2.2.1))), (z17, .inl (γ.2.1 0, 4, .inl (upd (upd (a.2.2.2.2.2.2.2.1) 2 1000) 3 1000))), (z18, .inl (γ.2.1 0, 4, .inl (upd (upd (a.2.2.2.2.2.2.2.2.1) 2 1000) 3 1000))), (z19, .inl (γ.2.1 0, 2000, .inl (a.2.2.2.2.2.2.2.2.2.1))), (z22, .inl (γ.2.1 0, 7, .inl (a.2.2.2.2.2.2.2.2.2.2.1))), (z23, .inl (γ.2.1 3, 7, .inl (a.2.2.2.2.2.2.2.2.2.2.2))), (z10, .inl (γ.2.1 0, 10, .inl (F_m_usual1 (a.1))))]) 0 gw_1398 gw_1400 gp_53 gw_15 gw_1401 hd_X12_begins hC hw (c_m_begins γ l z z2 z10 z11 z12 z13 z14 z15 z16 z17 z18 z19 z22 z23 z24 z25 z26 z27 z28 z29 z30 z31 z32 z33 z36 z37 z38 z39 z40 z41 z42 z43 z44 z45 z46 z47 z48 z55 z56 z59 z60 z61 n0 n3 n4 n5 n6 n7 n8 n9 1000 0 n34 n35 n49 n50 n51 n52 n53 n54 n57 n58 n62 n63 n g hn) ⟨by decide, by decide⟩ ⟨by decide, by decide⟩ hl.1 rfl 12 rfl rfl rfl (Nat.le_of_ble_eq_true rfl) [12, 0] [1, 2, 3, 4, 5, 6, 7, 8, 9, 10, 11, 13] rfl rfl rfl rfl (by decide) dX12_readsAll_49 (fun r w1 H locs hq hw => ?_)
  obtain ⟨rfl, rfl⟩ := hq
  have hw : kW γ A ([(z11, .inl (γ.2.1 1, 16, .inr (.inl (a.2.1)))), (z12, .inl (γ.2.1 1, 10, .inr (.inl (a.2.2.1)))), (z13, .inl (γ.2.1 0, 16, .inl (a.2.2.2.1))), (z14, .inl (γ.2.1 0, 16, .inl (a.2.2.2.2.1))), (z15, .inl (γ.2.1 0, 16, .inl (a.2.2.2.2.2.1))), (z16, .inl (γ.2.1 0, 10, .inl (a.2.2.2.2.2.2.1))), (z17, .inl (γ.2.1 0, 4, .inl (upd (upd (a.2.2.2.2.2.2.2.1) 2 1000) 3 1000))), (z18, .inl (γ.2.1 0, 4, .inl (upd (upd (a.2.2.2.2.2.2.2.2.1) 2 1000) 3 1000))), (z19, .inl (γ.2.1 0, 2000, .inl (a.2.2.2.2.2.2.2.2.2.1))), (z22, .inl (γ.2.1 0, 7, .inl (a.2.2.2.2.2.2.2.2.2.2.1))), (z23, .inl (γ.2.1 3, 7, .inl (a.2.2.2.2.2.2.2.2.2.2.2))), (z10, .inl (γ.2.1 0, 10, .inl (F_m_usual1 (a.1))))] ++ (mWz γ z z2 z10 z11 z12 z13 z14 z15 z16 z17 z18 z19 z22 z23 z24 z25 z26 z27 z28 z29 z30 z31 z32 z33 z36 z37 z38 z39 z40 z41 z42 z43 z44 z45 z46 z47 z48 z55 z56 z59 z60 z61 n0 0 n49 n50 n51 n52 n53 n54 n57 n58 n62 n63 g n (n9, 0, n34, n35, 0, 1000))) s H locs := hw
  refine W.eq (g2 := F0 m 52 ls []) rfl ?_
  exact lp_m_rall z z2 z10 z11 z12 z13 z14 z15 z16 z17 z18 z19 z22 z23 z24 z25 z26 z27 z28 z29 z30 z31 z32 z33 z36 z37 z38 z39 z40 z41 z42 z43 z44 z45 z46 z47 z48 z55 z56 z59 z60 z61 n0 0 n49 n50 n51 n52 n53 n54 n57 n58 n62 n63 n g hn hC hr hlocks 1001 (n9, 0, n34, n35, 0, 1000) ((F_m_usual1 (a.1)), (a.2.1), (a.2.2.1), (a.2.2.2.1), (a.2.2.2.2.1), (a.2.2.2.2.2.1), (a.2.2.2.2.2.2.1), (upd (upd (a.2.2.2.2.2.2.2.1) 2 1000) 3 1000), (upd (upd (a.2.2.2.2.2.2.2.2.1) 2 1000) 3 1000), (a.2.2.2.2.2.2.2.2.2.1), (a.2.2.2.2.2.2.2.2.2.2.1), (a.2.2.2.2.2.2.2.2.2.2.2)) res hres ok_u (Nat.le_add_right _ _) _ _ (kW.sub hw [12, 13, 11, 0, 1, 2, 3, 4, 5, 6, 7, 8, 9, 10] rfl rfl) _ (lv_sub hl [1] rfl)


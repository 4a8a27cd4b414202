theorem dX8_isSign_0 : decode cX8_isSign 0 = .ok (.iload_n 0, 1) := by decide +kernel
theorem dX8_isSign_1 : decode cX8_isSign 1 = .ok (.bipush 40, 2) := by decide +kernel
theorem dX8_isSign_3 : decode cX8_isSign 3 = .ok (.if_icmp .eq 45, 3) := by decide +kernel
theorem dX8_isSign_6 : decode cX8_isSign 6 = .ok (.iload_n 0, 1) := by decide +kernel
theorem dX8_isSign_7 : decode cX8_isSign 7 = .ok (.bipush 41, 2) := by decide +kernel
theorem dX8_isSign_9 : decode cX8_isSign 9 = .ok (.if_icmp .eq 39, 3) := by decide +kernel
theorem dX8_isSign_12 : decode cX8_isSign 12 = .ok (.iload_n 0, 1) := by decide +kernel
theorem dX8_isSign_13 : decode cX8_isSign 13 = .ok (.bipush 60, 2) := by decide +kernel
theorem dX8_isSign_15 : decode cX8_isSign 15 = .ok (.if_icmp .eq 33, 3) := by decide +kernel
theorem dX8_isSign_18 : decode cX8_isSign 18 = .ok (.iload_n 0, 1) := by decide +kernel
theorem dX8_isSign_19 : decode cX8_isSign 19 = .ok (.bipush 61, 2) := by decide +kernel
theorem dX8_isSign_21 : decode cX8_isSign 21 = .ok (.if_icmp .eq 27, 3) := by decide +kernel
theorem dX8_isSign_24 : decode cX8_isSign 24 = .ok (.iload_n 0, 1) := by decide +kernel
theorem dX8_isSign_25 : decode cX8_isSign 25 = .ok (.bipush 43, 2) := by decide +kernel
theorem dX8_isSign_27 : decode cX8_isSign 27 = .ok (.if_icmp .eq 21, 3) := by decide +kernel
theorem dX8_isSign_30 : decode cX8_isSign 30 = .ok (.iload_n 0, 1) := by decide +kernel
theorem dX8_isSign_31 : decode cX8_isSign 31 = .ok (.bipush 45, 2) := by decide +kernel
theorem dX8_isSign_33 : decode cX8_isSign 33 = .ok (.if_icmp .eq 15, 3) := by decide +kernel
theorem dX8_isSign_36 : decode cX8_isSign 36 = .ok (.iload_n 0, 1) := by decide +kernel
theorem dX8_isSign_37 : decode cX8_isSign 37 = .ok (.bipush 42, 2) := by decide +kernel
theorem dX8_isSign_39 : decode cX8_isSign 39 = .ok (.if_icmp .eq 9, 3) := by decide +kernel
theorem dX8_isSign_42 : decode cX8_isSign 42 = .ok (.iload_n 0, 1) := by decide +kernel
theorem dX8_isSign_43 : decode cX8_isSign 43 = .ok (.bipush 59, 2) := by decide +kernel
theorem dX8_isSign_45 : decode cX8_isSign 45 = .ok (.if_icmp .ne 7, 3) := by decide +kernel
theorem dX8_isSign_48 : decode cX8_isSign 48 = .ok (.iconst 1, 1) := by decide +kernel
theorem dX8_isSign_49 : decode cX8_isSign 49 = .ok (.goto 4, 3) := by decide +kernel
theorem dX8_isSign_52 : decode cX8_isSign 52 = .ok (.iconst 0, 1) := by decide +kernel
theorem dX8_isSign_53 : decode cX8_isSign 53 = .ok (.ireturn, 1) := by decide +kernel
theorem dX8_advance_0 : decode cX8_advance 0 = .ok (.aload_n 0, 1) := by decide +kernel
theorem dX8_advance_1 : decode cX8_advance 1 = .ok (.getfield 28, 3) := by decide +kernel
theorem dX8_advance_4 : decode cX8_advance 4 = .ok (.aload_n 0, 1) := by decide +kernel
theorem dX8_advance_5 : decode cX8_advance 5 = .ok (.getfield 24, 3) := by decide +kernel
theorem dX8_advance_8 : decode cX8_advance 8 = .ok (.if_icmp .ge 44, 3) := by decide +kernel
theorem dX8_advance_11 : decode cX8_advance 11 = .ok (.aload_n 0, 1) := by decide +kernel
theorem dX8_advance_12 : decode cX8_advance 12 = .ok (.getfield 9, 3) := by decide +kernel
theorem dX8_advance_15 : decode cX8_advance 15 = .ok (.aload_n 0, 1) := by decide +kernel
theorem dX8_advance_16 : decode cX8_advance 16 = .ok (.getfield 28, 3) := by decide +kernel
theorem dX8_advance_19 : decode cX8_advance 19 = .ok (.baload, 1) := by decide +kernel
theorem dX8_advance_20 : decode cX8_advance 20 = .ok (.bipush 10, 2) := by decide +kernel
theorem dX8_advance_22 : decode cX8_advance 22 = .ok (.if_icmp .eq 17, 3) := by decide +kernel
theorem dX8_advance_25 : decode cX8_advance 25 = .ok (.aload_n 0, 1) := by decide +kernel
theorem dX8_advance_26 : decode cX8_advance 26 = .ok (.getfield 9, 3) := by decide +kernel
theorem dX8_advance_29 : decode cX8_advance 29 = .ok (.aload_n 0, 1) := by decide +kernel
theorem dX8_advance_30 : decode cX8_advance 30 = .ok (.getfield 28, 3) := by decide +kernel
theorem dX8_advance_33 : decode cX8_advance 33 = .ok (.baload, 1) := by decide +kernel
theorem dX8_advance_34 : decode cX8_advance 34 = .ok (.bipush 32, 2) := by decide +kernel
theorem dX8_advance_36 : decode cX8_advance 36 = .ok (.if_icmp .ne 16, 3) := by decide +kernel
theorem dX8_advance_39 : decode cX8_advance 39 = .ok (.aload_n 0, 1) := by decide +kernel
theorem dX8_advance_40 : decode cX8_advance 40 = .ok (.dup, 1) := by decide +kernel
theorem dX8_advance_41 : decode cX8_advance 41 = .ok (.getfield 28, 3) := by decide +kernel
theorem dX8_advance_44 : decode cX8_advance 44 = .ok (.iconst 1, 1) := by decide +kernel
theorem dX8_advance_45 : decode cX8_advance 45 = .ok (.iadd, 1) := by decide +kernel
theorem dX8_advance_46 : decode cX8_advance 46 = .ok (.putfield 28, 3) := by decide +kernel
theorem dX8_advance_49 : decode cX8_advance 49 = .ok (.goto (-49), 3) := by decide +kernel
theorem dX8_advance_52 : decode cX8_advance 52 = .ok (.aload_n 0, 1) := by decide +kernel
theorem dX8_advance_53 : decode cX8_advance 53 = .ok (.aload_n 0, 1) := by decide +kernel
theorem dX8_advance_54 : decode cX8_advance 54 = .ok (.getfield 28, 3) := by decide +kernel
theorem dX8_advance_57 : decode cX8_advance 57 = .ok (.putfield 34, 3) := by decide +kernel
theorem dX8_advance_60 : decode cX8_advance 60 = .ok (.aload_n 0, 1) := by decide +kernel
theorem dX8_advance_61 : decode cX8_advance 61 = .ok (.getstatic 15, 3) := by decide +kernel
theorem dX8_advance_64 : decode cX8_advance 64 = .ok (.putfield 21, 3) := by decide +kernel
theorem dX8_advance_67 : decode cX8_advance 67 = .ok (.aload_n 0, 1) := by decide +kernel
theorem dX8_advance_68 : decode cX8_advance 68 = .ok (.getfield 34, 3) := by decide +kernel
theorem dX8_advance_71 : decode cX8_advance 71 = .ok (.aload_n 0, 1) := by decide +kernel
theorem dX8_advance_72 : decode cX8_advance 72 = .ok (.getfield 24, 3) := by decide +kernel
theorem dX8_advance_75 : decode cX8_advance 75 = .ok (.if_icmp .ge 15, 3) := by decide +kernel
theorem dX8_advance_78 : decode cX8_advance 78 = .ok (.aload_n 0, 1) := by decide +kernel
theorem dX8_advance_79 : decode cX8_advance 79 = .ok (.getfield 9, 3) := by decide +kernel
theorem dX8_advance_82 : decode cX8_advance 82 = .ok (.aload_n 0, 1) := by decide +kernel
theorem dX8_advance_83 : decode cX8_advance 83 = .ok (.getfield 34, 3) := by decide +kernel
theorem dX8_advance_86 : decode cX8_advance 86 = .ok (.baload, 1) := by decide +kernel
theorem dX8_advance_87 : decode cX8_advance 87 = .ok (.goto 4, 3) := by decide +kernel
theorem dX8_advance_90 : decode cX8_advance 90 = .ok (.iconst (-1), 1) := by decide +kernel
theorem dX8_advance_91 : decode cX8_advance 91 = .ok (.istore_n 1, 1) := by decide +kernel
theorem dX8_advance_92 : decode cX8_advance 92 = .ok (.iload_n 1, 1) := by decide +kernel
theorem dX8_advance_93 : decode cX8_advance 93 = .ok (.iconst (-1), 1) := by decide +kernel
theorem dX8_advance_94 : decode cX8_advance 94 = .ok (.if_icmp .ne 11, 3) := by decide +kernel
theorem dX8_advance_97 : decode cX8_advance 97 = .ok (.aload_n 0, 1) := by decide +kernel
theorem dX8_advance_98 : decode cX8_advance 98 = .ok (.iconst 0, 1) := by decide +kernel
theorem dX8_advance_99 : decode cX8_advance 99 = .ok (.putfield 37, 3) := by decide +kernel
theorem dX8_advance_102 : decode cX8_advance 102 = .ok (.goto 137, 3) := by decide +kernel
theorem dX8_advance_105 : decode cX8_advance 105 = .ok (.iload_n 1, 1) := by decide +kernel
theorem dX8_advance_106 : decode cX8_advance 106 = .ok (.bipush 97, 2) := by decide +kernel
theorem dX8_advance_108 : decode cX8_advance 108 = .ok (.if_icmp .lt 64, 3) := by decide +kernel
theorem dX8_advance_111 : decode cX8_advance 111 = .ok (.iload_n 1, 1) := by decide +kernel
theorem dX8_advance_112 : decode cX8_advance 112 = .ok (.bipush 122, 2) := by decide +kernel
theorem dX8_advance_114 : decode cX8_advance 114 = .ok (.if_icmp .gt 58, 3) := by decide +kernel
theorem dX8_advance_117 : decode cX8_advance 117 = .ok (.aload_n 0, 1) := by decide +kernel
theorem dX8_advance_118 : decode cX8_advance 118 = .ok (.invokevirtual 40, 3) := by decide +kernel
theorem dX8_advance_121 : decode cX8_advance 121 = .ok (.aload_n 0, 1) := by decide +kernel
theorem dX8_advance_122 : decode cX8_advance 122 = .ok (.aload_n 0, 1) := by decide +kernel
theorem dX8_advance_123 : decode cX8_advance 123 = .ok (.getfield 28, 3) := by decide +kernel
theorem dX8_advance_126 : decode cX8_advance 126 = .ok (.aload_n 0, 1) := by decide +kernel
theorem dX8_advance_127 : decode cX8_advance 127 = .ok (.getfield 34, 3) := by decide +kernel
theorem dX8_advance_130 : decode cX8_advance 130 = .ok (.isub, 1) := by decide +kernel
theorem dX8_advance_131 : decode cX8_advance 131 = .ok (.bipush 8, 2) := by decide +kernel
theorem dX8_advance_133 : decode cX8_advance 133 = .ok (.if_icmp .gt 7, 3) := by decide +kernel
theorem dX8_advance_136 : decode cX8_advance 136 = .ok (.iconst 1, 1) := by decide +kernel
theorem dX8_advance_137 : decode cX8_advance 137 = .ok (.goto 4, 3) := by decide +kernel
theorem dX8_advance_140 : decode cX8_advance 140 = .ok (.iconst 3, 1) := by decide +kernel
theorem dX8_advance_141 : decode cX8_advance 141 = .ok (.putfield 37, 3) := by decide +kernel
theorem dX8_advance_144 : decode cX8_advance 144 = .ok (.aload_n 0, 1) := by decide +kernel
theorem dX8_advance_145 : decode cX8_advance 145 = .ok (.aload_n 0, 1) := by decide +kernel
theorem dX8_advance_146 : decode cX8_advance 146 = .ok (.getfield 37, 3) := by decide +kernel
theorem dX8_advance_149 : decode cX8_advance 149 = .ok (.iconst 1, 1) := by decide +kernel
theorem dX8_advance_150 : decode cX8_advance 150 = .ok (.if_icmp .ne 13, 3) := by decide +kernel
theorem dX8_advance_153 : decode cX8_advance 153 = .ok (.aload_n 0, 1) := by decide +kernel
theorem dX8_advance_154 : decode cX8_advance 154 = .ok (.getfield 43, 3) := by decide +kernel
theorem dX8_advance_157 : decode cX8_advance 157 = .ok (.invokestatic 47, 3) := by decide +kernel
theorem dX8_advance_160 : decode cX8_advance 160 = .ok (.goto 6, 3) := by decide +kernel
theorem dX8_advance_163 : decode cX8_advance 163 = .ok (.getstatic 15, 3) := by decide +kernel
theorem dX8_advance_166 : decode cX8_advance 166 = .ok (.putfield 21, 3) := by decide +kernel
theorem dX8_advance_169 : decode cX8_advance 169 = .ok (.goto 70, 3) := by decide +kernel
theorem dX8_advance_172 : decode cX8_advance 172 = .ok (.iload_n 1, 1) := by decide +kernel
theorem dX8_advance_173 : decode cX8_advance 173 = .ok (.bipush 48, 2) := by decide +kernel
theorem dX8_advance_175 : decode cX8_advance 175 = .ok (.if_icmp .lt 38, 3) := by decide +kernel
theorem dX8_advance_178 : decode cX8_advance 178 = .ok (.iload_n 1, 1) := by decide +kernel
theorem dX8_advance_179 : decode cX8_advance 179 = .ok (.bipush 57, 2) := by decide +kernel
theorem dX8_advance_181 : decode cX8_advance 181 = .ok (.if_icmp .gt 32, 3) := by decide +kernel
theorem dX8_advance_184 : decode cX8_advance 184 = .ok (.aload_n 0, 1) := by decide +kernel
theorem dX8_advance_185 : decode cX8_advance 185 = .ok (.invokevirtual 51, 3) := by decide +kernel
theorem dX8_advance_188 : decode cX8_advance 188 = .ok (.aload_n 0, 1) := by decide +kernel
theorem dX8_advance_189 : decode cX8_advance 189 = .ok (.aload_n 0, 1) := by decide +kernel
theorem dX8_advance_190 : decode cX8_advance 190 = .ok (.getfield 28, 3) := by decide +kernel
theorem dX8_advance_193 : decode cX8_advance 193 = .ok (.aload_n 0, 1) := by decide +kernel
theorem dX8_advance_194 : decode cX8_advance 194 = .ok (.getfield 34, 3) := by decide +kernel
theorem dX8_advance_197 : decode cX8_advance 197 = .ok (.isub, 1) := by decide +kernel
theorem dX8_advance_198 : decode cX8_advance 198 = .ok (.iconst 4, 1) := by decide +kernel
theorem dX8_advance_199 : decode cX8_advance 199 = .ok (.if_icmp .gt 7, 3) := by decide +kernel
theorem dX8_advance_202 : decode cX8_advance 202 = .ok (.iconst 2, 1) := by decide +kernel
theorem dX8_advance_203 : decode cX8_advance 203 = .ok (.goto 4, 3) := by decide +kernel
theorem dX8_advance_206 : decode cX8_advance 206 = .ok (.iconst 3, 1) := by decide +kernel
theorem dX8_advance_207 : decode cX8_advance 207 = .ok (.putfield 37, 3) := by decide +kernel
theorem dX8_advance_210 : decode cX8_advance 210 = .ok (.goto 29, 3) := by decide +kernel
theorem dX8_advance_213 : decode cX8_advance 213 = .ok (.aload_n 0, 1) := by decide +kernel
theorem dX8_advance_214 : decode cX8_advance 214 = .ok (.dup, 1) := by decide +kernel
theorem dX8_advance_215 : decode cX8_advance 215 = .ok (.getfield 28, 3) := by decide +kernel
theorem dX8_advance_218 : decode cX8_advance 218 = .ok (.iconst 1, 1) := by decide +kernel
theorem dX8_advance_219 : decode cX8_advance 219 = .ok (.iadd, 1) := by decide +kernel
theorem dX8_advance_220 : decode cX8_advance 220 = .ok (.putfield 28, 3) := by decide +kernel
theorem dX8_advance_223 : decode cX8_advance 223 = .ok (.aload_n 0, 1) := by decide +kernel
theorem dX8_advance_224 : decode cX8_advance 224 = .ok (.iload_n 1, 1) := by decide +kernel
theorem dX8_advance_225 : decode cX8_advance 225 = .ok (.invokestatic 54, 3) := by decide +kernel
theorem dX8_advance_228 : decode cX8_advance 228 = .ok (.ifCond .eq 7, 3) := by decide +kernel
theorem dX8_advance_231 : decode cX8_advance 231 = .ok (.iload_n 1, 1) := by decide +kernel
theorem dX8_advance_232 : decode cX8_advance 232 = .ok (.goto 4, 3) := by decide +kernel
theorem dX8_advance_235 : decode cX8_advance 235 = .ok (.iconst 3, 1) := by decide +kernel
theorem dX8_advance_236 : decode cX8_advance 236 = .ok (.putfield 37, 3) := by decide +kernel
theorem dX8_advance_239 : decode cX8_advance 239 = .ok (.return_, 1) := by decide +kernel
set_option maxHeartbeats 4000000 in
set_option maxRecDepth 100000 in
theorem c_X8_isSign (γ : kΓ) (l : Launch) (v : Int32) : kM γ l yX8_isSign cX8_isSign 1 ((some .boolean)) ({ frames := 0, cells := 0, slots := 0, locals := 0 } : Room) [.int v] [] (fun r w1 => ∃ (b : Int32), r = some (.int b) ∧ w1 = [] ∧ ((b = 1 ∧ isS v = true) ∨ (b = 0 ∧ isS v = false))) := by
  refine k_ofW (by decide) (Nat.le_of_ble_eq_true rfl) ?_
  intro p9 e s m below meth c A ls hC hr hlocks hname hw hl
  have hx := hC.1
  have hb := hC.2.1
  have hl : lv_has ls 1 [(0, .int v)] := hl
  refine lv_iload_n hx hb dX8_isSign_0 rfl (lv_at hl 0 rfl) ?_
  refine lv_bipush (v := 40) hx hb dX8_isSign_1 (by decide) ?_
  refine lv_icmp_eq (tgt := 48) hx hb dX8_isSign_3 (by decide) (fun cS0 => ?_) (fun cS0 => ?_)
  · refine lv_iconst (v := 1) hx hb dX8_isSign_48 (by decide) ?_
    refine lv_goto (tgt := 53) hx hb dX8_isSign_49 (by decide) ?_
    exact k_zret hC hr hlocks rfl hw [] rfl rfl ⟨1, rfl, rfl, (.inl ⟨rfl, isS_y (by first | exact .inl cS0 | exact .inr (.inl cS1) | exact .inr (.inr (.inl cS2)) | exact .inr (.inr (.inr (.inl cS3))) | exact .inr (.inr (.inr (.inr (.inl cS4)))) | exact .inr (.inr (.inr (.inr (.inr (.inl cS5))))) | exact .inr (.inr (.inr (.inr (.inr (.inr (.inl cS6)))))) | exact .inr (.inr (.inr (.inr (.inr (.inr (.inr cS7)))))))⟩)⟩ (by decide) (by decide) dX8_isSign_53
  · refine lv_iload_n hx hb dX8_isSign_6 rfl (lv_at hl 0 rfl) ?_
    refine lv_bipush (v := 41) hx hb dX8_isSign_7 (by decide) ?_
    refine lv_icmp_eq (tgt := 48) hx hb dX8_isSign_9 (by decide) (fun cS1 => ?_) (fun cS1 => ?_)
    · refine lv_iconst (v := 1) hx hb dX8_isSign_48 (by decide) ?_
      refine lv_goto (tgt := 53) hx hb dX8_isSign_49 (by decide) ?_
      exact k_zret hC hr hlocks rfl hw [] rfl rfl ⟨1, rfl, rfl, (.inl ⟨rfl, isS_y (by first | exact .inl cS0 | exact .inr (.inl cS1) | exact .inr (.inr (.inl cS2)) | exact .inr (.inr (.inr (.inl cS3))) | exact .inr (.inr (.inr (.inr (.inl cS4)))) | exact .inr (.inr (.inr (.inr (.inr (.inl cS5))))) | exact .inr (.inr (.inr (.inr (.inr (.inr (.inl cS6)))))) | exact .inr (.inr (.inr (.inr (.inr (.inr (.inr cS7)))))))⟩)⟩ (by decide) (by decide) dX8_isSign_53
    · refine lv_iload_n hx hb dX8_isSign_12 rfl (lv_at hl 0 rfl) ?_
      refine lv_bipush (v := 60) hx hb dX8_isSign_13 (by decide) ?_
      refine lv_icmp_eq (tgt := 48) hx hb dX8_isSign_15 (by decide) (fun cS2 => ?_) (fun cS2 => ?_)
      · refine lv_iconst (v := 1) hx hb dX8_isSign_48 (by decide) ?_
        refine lv_goto (tgt := 53) hx hb dX8_isSign_49 (by decide) ?_
        exact k_zret hC hr hlocks rfl hw [] rfl rfl ⟨1, rfl, rfl, (.inl ⟨rfl, isS_y (by first | exact .inl cS0 | exact .inr (.inl cS1) | exact .inr (.inr (.inl cS2)) | exact .inr (.inr (.inr (.inl cS3))) | exact .inr (.inr (.inr (.inr (.inl cS4)))) | exact .inr (.inr (.inr (.inr (.inr (.inl cS5))))) | exact .inr (.inr (.inr (.inr (.inr (.inr (.inl cS6)))))) | exact .inr (.inr (.inr (.inr (.inr (.inr (.inr cS7)))))))⟩)⟩ (by decide) (by decide) dX8_isSign_53
      · refine lv_iload_n hx hb dX8_isSign_18 rfl (lv_at hl 0 rfl) ?_
        refine lv_bipush (v := 61) hx hb dX8_isSign_19 (by decide) ?_
        refine lv_icmp_eq (tgt := 48) hx hb dX8_isSign_21 (by decide) (fun cS3 => ?_) (fun cS3 => ?_)
        · refine lv_iconst (v := 1) hx hb dX8_isSign_48 (by decide) ?_
          refine lv_goto (tgt := 53) hx hb dX8_isSign_49 (by decide) ?_
          exact k_zret hC hr hlocks rfl hw [] rfl rfl ⟨1, rfl, rfl, (.inl ⟨rfl, isS_y (by first | exact .inl cS0 | exact .inr (.inl cS1) | exact .inr (.inr (.inl cS2)) | exact .inr (.inr (.inr (.inl cS3))) | exact .inr (.inr (.inr (.inr (.inl cS4)))) | exact .inr (.inr (.inr (.inr (.inr (.inl cS5))))) | exact .inr (.inr (.inr (.inr (.inr (.inr (.inl cS6)))))) | exact .inr (.inr (.inr (.inr (.inr (.inr (.inr cS7)))))))⟩)⟩ (by decide) (by decide) dX8_isSign_53
        · refine lv_iload_n hx hb dX8_isSign_24 rfl (lv_at hl 0 rfl) ?_
          refine lv_bipush (v := 43) hx hb dX8_isSign_25 (by decide) ?_
          refine lv_icmp_eq (tgt := 48) hx hb dX8_isSign_27 (by decide) (fun cS4 => ?_) (fun cS4 => ?_)
          · refine lv_iconst (v := 1) hx hb dX8_isSign_48 (by decide) ?_
            refine lv_goto (tgt := 53) hx hb dX8_isSign_49 (by decide) ?_
            exact k_zret hC hr hlocks rfl hw [] rfl rfl ⟨1, rfl, rfl, (.inl ⟨rfl, isS_y (by first | exact .inl cS0 | exact .inr (.inl cS1) | exact .inr (.inr (.inl cS2)) | exact .inr (.inr (.inr (.inl cS3))) | exact .inr (.inr (.inr (.inr (.inl cS4)))) | exact .inr (.inr (.inr (.inr (.inr (.inl cS5))))) | exact .inr (.inr (.inr (.inr (.inr (.inr (.inl cS6)))))) | exact .inr (.inr (.inr (.inr (.inr (.inr (.inr cS7)))))))⟩)⟩ (by decide) (by decide) dX8_isSign_53
          · refine lv_iload_n hx hb dX8_isSign_30 rfl (lv_at hl 0 rfl) ?_
            refine lv_bipush (v := 45) hx hb dX8_isSign_31 (by decide) ?_
            refine lv_icmp_eq (tgt := 48) hx hb dX8_isSign_33 (by decide) (fun cS5 => ?_) (fun cS5 => ?_)
            · refine lv_iconst (v := 1) hx hb dX8_isSign_48 (by decide) ?_
              refine lv_goto (tgt := 53) hx hb dX8_isSign_49 (by decide) ?_
              exact k_zret hC hr hlocks rfl hw [] rfl rfl ⟨1, rfl, rfl, (.inl ⟨rfl, isS_y (by first | exact .inl cS0 | exact .inr (.inl cS1) | exact .inr (.inr (.inl cS2)) | exact .inr (.inr (.inr (.inl cS3))) | exact .inr (.inr (.inr (.inr (.inl cS4)))) | exact .inr (.inr (.inr (.inr (.inr (.inl cS5))))) | exact .inr (.inr (.inr (.inr (.inr (.inr (.inl cS6)))))) | exact .inr (.inr (.inr (.inr (.inr (.inr (.inr cS7)))))))⟩)⟩ (by decide) (by decide) dX8_isSign_53
            · refine lv_iload_n hx hb dX8_isSign_36 rfl (lv_at hl 0 rfl) ?_
              refine lv_bipush (v := 42) hx hb dX8_isSign_37 (by decide) ?_
              refine lv_icmp_eq (tgt := 48) hx hb dX8_isSign_39 (by decide) (fun cS6 => ?_) (fun cS6 => ?_)
              · refine lv_iconst (v := 1) hx hb dX8_isSign_48 (by decide) ?_
                refine lv_goto (tgt := 53) hx hb dX8_isSign_49 (by decide) ?_
                exact k_zret hC hr hlocks rfl hw [] rfl rfl ⟨1, rfl, rfl, (.inl ⟨rfl, isS_y (by first | exact .inl cS0 | exact .inr (.inl cS1) | exact .inr (.inr (.inl cS2)) | exact .inr (.inr (.inr (.inl cS3))) | exact .inr (.inr (.inr (.inr (.inl cS4)))) | exact .inr (.inr (.inr (.inr (.inr (.inl cS5))))) | exact .inr (.inr (.inr (.inr (.inr (.inr (.inl cS6)))))) | exact .inr (.inr (.inr (.inr (.inr (.inr (.inr cS7)))))))⟩)⟩ (by decide) (by decide) dX8_isSign_53
              · refine lv_iload_n hx hb dX8_isSign_42 rfl (lv_at hl 0 rfl) ?_
                refine lv_bipush (v := 59) hx hb dX8_isSign_43 (by decide) ?_
                refine lv_icmp_ne (tgt := 52) hx hb dX8_isSign_45 (by decide) (fun cS7 => ?_) (fun cS7 => ?_)
                · refine lv_iconst (v := 0) hx hb dX8_isSign_52 (by decide) ?_
                  exact k_zret hC hr hlocks rfl hw [] rfl rfl ⟨0, rfl, rfl, (.inr ⟨rfl, isS_n ⟨cS0, cS1, cS2, cS3, cS4, cS5, cS6, cS7⟩⟩)⟩ (by decide) (by decide) dX8_isSign_53
                · refine lv_iconst (v := 1) hx hb dX8_isSign_48 (by decide) ?_
                  refine lv_goto (tgt := 53) hx hb dX8_isSign_49 (by decide) ?_
                  exact k_zret hC hr hlocks rfl hw [] rfl rfl ⟨1, rfl, rfl, (.inl ⟨rfl, isS_y (by first | exact .inl cS0 | exact .inr (.inl cS1) | exact .inr (.inr (.inl cS2)) | exact .inr (.inr (.inr (.inl cS3))) | exact .inr (.inr (.inr (.inr (.inl cS4)))) | exact .inr (.inr (.inr (.inr (.inr (.inl cS5))))) | exact .inr (.inr (.inr (.inr (.inr (.inr (.inl cS6)))))) | exact .inr (.inr (.inr (.inr (.inr (.inr (.inr cS7)))))))⟩)⟩ (by decide) (by decide) dX8_isSign_53

set_option maxHeartbeats 4000000 in
set_option maxRecDepth 100000 in
theorem lp_adv {γ : kΓ} {l : Launch} {p9 : Program} {e : Env} {s : State} {m : MethodId} {below : List Frame} {meth : Method} {c : Code} {A : Nat → Prop} (h : Nat) (hg : Nat) (t2 : Int32) (t4 : Int32) (t5 : Int32) (t6 : Int64) (t7 : Nat) (n : Nat) (p : Nat) (f : Nat → Int32) (F : Nat) (hn : n ≤ 1000) (hok : ∀ k, k < n → kok (f k) = true) (hC : kC γ p9 s m [.ref h].toArray c cX8_advance 2 RX8 A) (hr : meth.sig.returnType = none) (hlocks : meth.locks = false) : ∀ (k : Nat) (q : Nat), n - q < k → (q ≤ n) → (rn isB f n q = F) → ∀ (H : Heap) (locs : List Loc), kW γ A [(h, .inr (8, [.ref hg, .int (nI n), .int t2, .int (nI q), .int t4, .int t5, .long t6, .ref t7])), (hg, .inl (γ.2.1 2, 1000, .inl f))] s H locs → ∀ ls : Array Slot, lv_has ls 2 [(0, .ref h)] → W p9 l e ({ frames := 1, cells := 0, slots := 0, locals := 40 } : Room) s m [.ref h].toArray below meth c H locs 0 0 (MQ below (kQ γ A (fun r w1 => r = none ∧ w1 = [(h, .inr (8, [.ref hg, .int (nI n), .int (nI F), .int (nI (te1 f n F)), .int (tk1 f n F), .int (tn1 f n F t5), .long (tl1 f n F t6), .ref (γ.2.2.2.2 (tw1 f n F))])), (hg, .inl (γ.2.1 2, 1000, .inl f))])) [.ref h].toArray s 0 0 A) (F0 m 0 ls []) := by
  have hx := hC.1
  have hb := hC.2.1
  intro k
  induction k with
  | zero => intro q hk; exact absurd hk (Nat.not_lt_zero _)
  | succ k ih =>
    intro q hk hq hF H locs hw ls hl
    refine lv_aload_n hx hb dX8_advance_0 rfl (lv_at hl 0 rfl) ?_
    refine fg_RX8_28 hC hw 0 rfl rfl dX8_advance_1 ?_
    refine lv_aload_n hx hb dX8_advance_4 rfl (lv_at hl 0 rfl) ?_
    refine fg_RX8_24 hC hw 0 rfl rfl dX8_advance_5 ?_
    refine lv_icmp_ge (tgt := 52) hx hb dX8_advance_8 (by decide) (fun c8 => ?_) (fun c8 => ?_)
    · have h8 : ¬ q < n := fun h9 => absurd c8 (nI_ge h9 (by omega))
      have hF9 : q = F := by first | exact (rn_end h8).symm.trans hF | exact (rn_no (isB_n c22 c36)).symm.trans hF
      refine lv_aload_n hx hb dX8_advance_52 rfl (lv_at hl 0 rfl) ?_
      refine lv_aload_n hx hb dX8_advance_53 rfl (lv_at hl 0 rfl) ?_
      refine fg_RX8_28 hC hw 0 rfl rfl dX8_advance_54 ?_
      refine fs_RX8_34 hC hw 0 rfl rfl rfl (Nat.le_of_ble_eq_true rfl) dX8_advance_57 (fun H locs hw => ?_)
      have hw : kW γ A [(h, .inr (8, [.ref hg, .int (nI n), .int (nI q), .int (nI q), .int t4, .int t5, .long t6, .ref t7])), (hg, .inl (γ.2.1 2, 1000, .inl f))] s H locs := hw
      refine lv_aload_n hx hb dX8_advance_60 rfl (lv_at hl 0 rfl) ?_
      refine k_word hC hw (n := 0) (by decide) gw_37 dX8_advance_61 ?_
      refine fs_RX8_21 hC hw 0 rfl rfl rfl (Nat.le_of_ble_eq_true rfl) dX8_advance_64 (fun H locs hw => ?_)
      have hw : kW γ A [(h, .inr (8, [.ref hg, .int (nI n), .int (nI q), .int (nI q), .int t4, .int t5, .long t6, .ref (γ.2.2.2.2 0)])), (hg, .inl (γ.2.1 2, 1000, .inl f))] s H locs := hw
      refine lv_aload_n hx hb dX8_advance_67 rfl (lv_at hl 0 rfl) ?_
      refine fg_RX8_34 hC hw 0 rfl rfl dX8_advance_68 ?_
      refine lv_aload_n hx hb dX8_advance_71 rfl (lv_at hl 0 rfl) ?_
      refine fg_RX8_24 hC hw 0 rfl rfl dX8_advance_72 ?_
      refine lv_icmp_ge (tgt := 90) hx hb dX8_advance_75 (by decide) (fun _ => ?_) (fun h => absurd (nI_le (by omega) (by omega)) h)
      refine lv_iconst (v := (-1)) hx hb dX8_advance_90 (by decide) ?_
      refine lv_istore_n (lv' := [(1, .int (-1)), (0, .ref h)]) hx hb dX8_advance_91 rfl hl (by decide) rfl (fun ls hl => ?_)
      refine lv_iload_n hx hb dX8_advance_92 rfl (lv_at hl 0 rfl) ?_
      refine lv_iconst (v := (-1)) hx hb dX8_advance_93 (by decide) ?_
      refine lv_icmp_ne (tgt := 105) hx hb dX8_advance_94 (by decide) (fun h => absurd rfl h) (fun _ => ?_)
      refine lv_aload_n hx hb dX8_advance_97 rfl (lv_at hl 1 rfl) ?_
      refine lv_iconst (v := 0) hx hb dX8_advance_98 (by decide) ?_
      refine fs_RX8_37 hC hw 0 rfl rfl rfl (Nat.le_of_ble_eq_true rfl) dX8_advance_99 (fun H locs hw => ?_)
      have hw : kW γ A [(h, .inr (8, [.ref hg, .int (nI n), .int (nI q), .int (nI q), .int 0, .int t5, .long t6, .ref (γ.2.2.2.2 0)])), (hg, .inl (γ.2.1 2, 1000, .inl f))] s H locs := hw
      refine lv_goto (tgt := 239) hx hb dX8_advance_102 (by decide) ?_
      obtain ⟨e1, e2, e3, e4, e5⟩ := tE (f := f) (x := t5) (y := t6) h8
      have hw : kW γ A [(h, .inr (8, [.ref hg, .int (nI n), .int (nI F), .int (nI (te1 f n F)), .int (tk1 f n F), .int (tn1 f n F t5), .long (tl1 f n F t6), .ref (γ.2.2.2.2 (tw1 f n F))])), (hg, .inl (γ.2.1 2, 1000, .inl f))] s H locs := by rw [← hF9, e1, e2, e3, e4, e5]; exact hw
      exact k_vret hC hr hlocks hw [0, 1] rfl rfl ⟨rfl, rfl⟩ (by decide) (by decide) dX8_advance_239
    · have h8 : q < n := by rcases Nat.lt_or_ge q n with h9 | h9; exact h9; exact absurd (nI_le h9 (by omega)) c8
      refine lv_aload_n hx hb dX8_advance_11 rfl (lv_at hl 0 rfl) ?_
      refine fg_RX8_9 hC hw 0 rfl rfl dX8_advance_12 ?_
      refine lv_aload_n hx hb dX8_advance_15 rfl (lv_at hl 0 rfl) ?_
      refine fg_RX8_28 hC hw 0 rfl rfl dX8_advance_16 ?_
      refine k_bald hC hw 1 rfl (vp_in_nI (by omega) (by decide)) dX8_advance_19 ?_
      refine lv_topi (fun x_11 ex_11 => ?_)
      obtain rfl : x_11 = f q := (show x_11 = f (nI q : Int32).toNatClampNeg from ex_11).trans (by rw [nI_clamp (by omega)])
      refine lv_bipush (v := 10) hx hb dX8_advance_20 (by decide) ?_
      refine lv_icmp_eq (tgt := 39) hx hb dX8_advance_22 (by decide) (fun c22 => ?_) (fun c22 => ?_)
      · refine lv_aload_n hx hb dX8_advance_39 rfl (lv_at hl 0 rfl) ?_
        refine lv_dup hx hb dX8_advance_40 rfl ?_
        refine fg_RX8_28 hC hw 0 rfl rfl dX8_advance_41 ?_
        refine lv_iconst (v := 1) hx hb dX8_advance_44 (by decide) ?_
        refine lv_iadd hx hb dX8_advance_45 ?_
        refine lv_topi (fun x_12 ex_12 => ?_)
        obtain rfl : x_12 = (nI (q + 1)) := ex_12.trans (nI_1 q)
        refine fs_RX8_28 hC hw 0 rfl rfl rfl (Nat.le_of_ble_eq_true rfl) dX8_advance_46 (fun H locs hw => ?_)
        have hw : kW γ A [(h, .inr (8, [.ref hg, .int (nI n), .int t2, .int (nI (q + 1)), .int t4, .int t5, .long t6, .ref t7])), (hg, .inl (γ.2.1 2, 1000, .inl f))] s H locs := hw
        refine lv_goto (tgt := 0) hx hb dX8_advance_49 (by decide) ?_
        exact ih (q + 1) (by omega) (by omega) ((rn_go h8 (by first | exact isB_y1 c22 | exact isB_y2 (Decidable.not_not.mp c36) | exact isB_y2 c36)).symm.trans hF) _ _ (kW.sub hw [0, 1] rfl rfl) _ (lv_sub hl [0] rfl)
      · refine lv_aload_n hx hb dX8_advance_25 rfl (lv_at hl 0 rfl) ?_
        refine fg_RX8_9 hC hw 0 rfl rfl dX8_advance_26 ?_
        refine lv_aload_n hx hb dX8_advance_29 rfl (lv_at hl 0 rfl) ?_
        refine fg_RX8_28 hC hw 0 rfl rfl dX8_advance_30 ?_
        refine k_bald hC hw 1 rfl (vp_in_nI (by omega) (by decide)) dX8_advance_33 ?_
        refine lv_topi (fun x_13 ex_13 => ?_)
        obtain rfl : x_13 = f q := (show x_13 = f (nI q : Int32).toNatClampNeg from ex_13).trans (by rw [nI_clamp (by omega)])
        refine lv_bipush (v := 32) hx hb dX8_advance_34 (by decide) ?_
        refine lv_icmp_ne (tgt := 52) hx hb dX8_advance_36 (by decide) (fun c36 => ?_) (fun c36 => ?_)
        · have hF9 : q = F := by first | exact (rn_end h8).symm.trans hF | exact (rn_no (isB_n c22 c36)).symm.trans hF
          refine lv_aload_n hx hb dX8_advance_52 rfl (lv_at hl 0 rfl) ?_
          refine lv_aload_n hx hb dX8_advance_53 rfl (lv_at hl 0 rfl) ?_
          refine fg_RX8_28 hC hw 0 rfl rfl dX8_advance_54 ?_
          refine fs_RX8_34 hC hw 0 rfl rfl rfl (Nat.le_of_ble_eq_true rfl) dX8_advance_57 (fun H locs hw => ?_)
          have hw : kW γ A [(h, .inr (8, [.ref hg, .int (nI n), .int (nI q), .int (nI q), .int t4, .int t5, .long t6, .ref t7])), (hg, .inl (γ.2.1 2, 1000, .inl f))] s H locs := hw
          refine lv_aload_n hx hb dX8_advance_60 rfl (lv_at hl 0 rfl) ?_
          refine k_word hC hw (n := 0) (by decide) gw_37 dX8_advance_61 ?_
          refine fs_RX8_21 hC hw 0 rfl rfl rfl (Nat.le_of_ble_eq_true rfl) dX8_advance_64 (fun H locs hw => ?_)
          have hw : kW γ A [(h, .inr (8, [.ref hg, .int (nI n), .int (nI q), .int (nI q), .int t4, .int t5, .long t6, .ref (γ.2.2.2.2 0)])), (hg, .inl (γ.2.1 2, 1000, .inl f))] s H locs := hw
          refine lv_aload_n hx hb dX8_advance_67 rfl (lv_at hl 0 rfl) ?_
          refine fg_RX8_34 hC hw 0 rfl rfl dX8_advance_68 ?_
          refine lv_aload_n hx hb dX8_advance_71 rfl (lv_at hl 0 rfl) ?_
          refine fg_RX8_24 hC hw 0 rfl rfl dX8_advance_72 ?_
          refine lv_icmp_ge (tgt := 90) hx hb dX8_advance_75 (by decide) (fun h => absurd h (nI_ge h8 (by omega))) (fun _ => ?_)
          refine lv_aload_n hx hb dX8_advance_78 rfl (lv_at hl 0 rfl) ?_
          refine fg_RX8_9 hC hw 0 rfl rfl dX8_advance_79 ?_
          refine lv_aload_n hx hb dX8_advance_82 rfl (lv_at hl 0 rfl) ?_
          refine fg_RX8_34 hC hw 0 rfl rfl dX8_advance_83 ?_
          refine k_bald hC hw 1 rfl (vp_in_nI (by omega) (by decide)) dX8_advance_86 ?_
          refine lv_topi (fun x_14 ex_14 => ?_)
          obtain rfl : x_14 = f q := (show x_14 = f (nI q : Int32).toNatClampNeg from ex_14).trans (by rw [nI_clamp (by omega)])
          refine lv_goto (tgt := 91) hx hb dX8_advance_87 (by decide) ?_
          refine lv_istore_n (lv' := [(1, .int (f q)), (0, .ref h)]) hx hb dX8_advance_91 rfl hl (by decide) rfl (fun ls hl => ?_)
          refine lv_iload_n hx hb dX8_advance_92 rfl (lv_at hl 0 rfl) ?_
          refine lv_iconst (v := (-1)) hx hb dX8_advance_93 (by decide) ?_
          refine lv_icmp_ne (tgt := 105) hx hb dX8_advance_94 (by decide) (fun _ => ?_) (fun h => absurd h (f_pos hok h8))
          refine lv_iload_n hx hb dX8_advance_105 rfl (lv_at hl 0 rfl) ?_
          refine lv_bipush (v := 97) hx hb dX8_advance_106 (by decide) ?_
          refine lv_icmp_lt (tgt := 172) hx hb dX8_advance_108 (by decide) (fun c108 => ?_) (fun c108 => ?_)
          · refine lv_iload_n hx hb dX8_advance_172 rfl (lv_at hl 0 rfl) ?_
            refine lv_bipush (v := 48) hx hb dX8_advance_173 (by decide) ?_
            refine lv_icmp_lt (tgt := 213) hx hb dX8_advance_175 (by decide) (fun c175 => ?_) (fun c175 => ?_)
            · refine lv_aload_n hx hb dX8_advance_213 rfl (lv_at hl 1 rfl) ?_
              refine lv_dup hx hb dX8_advance_214 rfl ?_
              refine fg_RX8_28 hC hw 0 rfl rfl dX8_advance_215 ?_
              refine lv_iconst (v := 1) hx hb dX8_advance_218 (by decide) ?_
              refine lv_iadd hx hb dX8_advance_219 ?_
              refine lv_topi (fun x_15 ex_15 => ?_)
              obtain rfl : x_15 = (nI (q + 1)) := ex_15.trans (nI_1 q)
              refine fs_RX8_28 hC hw 0 rfl rfl rfl (Nat.le_of_ble_eq_true rfl) dX8_advance_220 (fun H locs hw => ?_)
              have hw : kW γ A [(h, .inr (8, [.ref hg, .int (nI n), .int (nI q), .int (nI (q + 1)), .int t4, .int t5, .long t6, .ref (γ.2.2.2.2 0)])), (hg, .inl (γ.2.1 2, 1000, .inl f))] s H locs := hw
              refine lv_aload_n hx hb dX8_advance_223 rfl (lv_at hl 1 rfl) ?_
              refine lv_iload_n hx hb dX8_advance_224 rfl (lv_at hl 0 rfl) ?_
              refine k_S (wr := [(h, .inr (8, [.ref hg, .int (nI n), .int (nI q), .int (nI (q + 1)), .int t4, .int t5, .long t6, .ref (γ.2.2.2.2 0)])), (hg, .inl (γ.2.1 2, 1000, .inl f))]) 1 gw_480 gw_481 gw_2 gw_482 hd_X8_isSign hC hw (c_X8_isSign γ l (f q)) ⟨by decide, by decide⟩ ⟨by decide, by decide⟩ hl.1 rfl rfl (Nat.le_of_ble_eq_true rfl) [] [0, 1] rfl rfl rfl rfl (by decide) dX8_advance_225 (fun r w1 H locs hq hw => ?_)
              obtain ⟨b_16, rfl, rfl, g_17⟩ := hq
              have hw : kW γ A [(h, .inr (8, [.ref hg, .int (nI n), .int (nI q), .int (nI (q + 1)), .int t4, .int t5, .long t6, .ref (γ.2.2.2.2 0)])), (hg, .inl (γ.2.1 2, 1000, .inl f))] s H locs := hw
              refine W.eq (g2 := F0 m 228 ls [.int b_16, .ref h]) rfl ?_
              rcases g_17 with ⟨rfl, hS⟩ | ⟨rfl, hS⟩
              · refine lv_if_eq (tgt := 235) hx hb dX8_advance_228 (by decide) (fun h => absurd h (by decide)) (fun _ => ?_)
                refine lv_iload_n hx hb dX8_advance_231 rfl (lv_at hl 0 rfl) ?_
                refine lv_goto (tgt := 236) hx hb dX8_advance_232 (by decide) ?_
                refine fs_RX8_37 hC hw 0 rfl rfl rfl (Nat.le_of_ble_eq_true rfl) dX8_advance_236 (fun H locs hw => ?_)
                have hw : kW γ A [(h, .inr (8, [.ref hg, .int (nI n), .int (nI q), .int (nI (q + 1)), .int (f q), .int t5, .long t6, .ref (γ.2.2.2.2 0)])), (hg, .inl (γ.2.1 2, 1000, .inl f))] s H locs := hw
                obtain ⟨e1, e2, e3, e4, e5⟩ := tS1 (x := t5) (y := t6) h8 (by first | rw [isL_lo c108]; decide | rw [isL_hi c114]; decide) (by first | rw [isD_lo c175]; decide | rw [isD_hi c181]; decide) hS
                have hw : kW γ A [(h, .inr (8, [.ref hg, .int (nI n), .int (nI F), .int (nI (te1 f n F)), .int (tk1 f n F), .int (tn1 f n F t5), .long (tl1 f n F t6), .ref (γ.2.2.2.2 (tw1 f n F))])), (hg, .inl (γ.2.1 2, 1000, .inl f))] s H locs := by rw [← hF9, e1, e2, e3, e4, e5]; exact hw
                exact k_vret hC hr hlocks hw [0, 1] rfl rfl ⟨rfl, rfl⟩ (by decide) (by decide) dX8_advance_239
              · refine lv_if_eq (tgt := 235) hx hb dX8_advance_228 (by decide) (fun _ => ?_) (fun h => absurd (by decide) h)
                refine lv_iconst (v := 3) hx hb dX8_advance_235 (by decide) ?_
                refine fs_RX8_37 hC hw 0 rfl rfl rfl (Nat.le_of_ble_eq_true rfl) dX8_advance_236 (fun H locs hw => ?_)
                have hw : kW γ A [(h, .inr (8, [.ref hg, .int (nI n), .int (nI q), .int (nI (q + 1)), .int 3, .int t5, .long t6, .ref (γ.2.2.2.2 0)])), (hg, .inl (γ.2.1 2, 1000, .inl f))] s H locs := hw
                obtain ⟨e1, e2, e3, e4, e5⟩ := tS3 (x := t5) (y := t6) h8 (by first | rw [isL_lo c108]; decide | rw [isL_hi c114]; decide) (by first | rw [isD_lo c175]; decide | rw [isD_hi c181]; decide) (by rw [hS]; decide)
                have hw : kW γ A [(h, .inr (8, [.ref hg, .int (nI n), .int (nI F), .int (nI (te1 f n F)), .int (tk1 f n F), .int (tn1 f n F t5), .long (tl1 f n F t6), .ref (γ.2.2.2.2 (tw1 f n F))])), (hg, .inl (γ.2.1 2, 1000, .inl f))] s H locs := by rw [← hF9, e1, e2, e3, e4, e5]; exact hw
                exact k_vret hC hr hlocks hw [0, 1] rfl rfl ⟨rfl, rfl⟩ (by decide) (by decide) dX8_advance_239
            · refine lv_iload_n hx hb dX8_advance_178 rfl (lv_at hl 0 rfl) ?_
              refine lv_bipush (v := 57) hx hb dX8_advance_179 (by decide) ?_
              refine lv_icmp_gt (tgt := 213) hx hb dX8_advance_181 (by decide) (fun c181 => ?_) (fun c181 => ?_)
              · refine lv_aload_n hx hb dX8_advance_213 rfl (lv_at hl 1 rfl) ?_
                refine lv_dup hx hb dX8_advance_214 rfl ?_
                refine fg_RX8_28 hC hw 0 rfl rfl dX8_advance_215 ?_
                refine lv_iconst (v := 1) hx hb dX8_advance_218 (by decide) ?_
                refine lv_iadd hx hb dX8_advance_219 ?_
                refine lv_topi (fun x_18 ex_18 => ?_)
                obtain rfl : x_18 = (nI (q + 1)) := ex_18.trans (nI_1 q)
                refine fs_RX8_28 hC hw 0 rfl rfl rfl (Nat.le_of_ble_eq_true rfl) dX8_advance_220 (fun H locs hw => ?_)
                have hw : kW γ A [(h, .inr (8, [.ref hg, .int (nI n), .int (nI q), .int (nI (q + 1)), .int t4, .int t5, .long t6, .ref (γ.2.2.2.2 0)])), (hg, .inl (γ.2.1 2, 1000, .inl f))] s H locs := hw
                refine lv_aload_n hx hb dX8_advance_223 rfl (lv_at hl 1 rfl) ?_
                refine lv_iload_n hx hb dX8_advance_224 rfl (lv_at hl 0 rfl) ?_
                refine k_S (wr := [(h, .inr (8, [.ref hg, .int (nI n), .int (nI q), .int (nI (q + 1)), .int t4, .int t5, .long t6, .ref (γ.2.2.2.2 0)])), (hg, .inl (γ.2.1 2, 1000, .inl f))]) 1 gw_480 gw_481 gw_2 gw_482 hd_X8_isSign hC hw (c_X8_isSign γ l (f q)) ⟨by decide, by decide⟩ ⟨by decide, by decide⟩ hl.1 rfl rfl (Nat.le_of_ble_eq_true rfl) [] [0, 1] rfl rfl rfl rfl (by decide) dX8_advance_225 (fun r w1 H locs hq hw => ?_)
                obtain ⟨b_19, rfl, rfl, g_20⟩ := hq
                have hw : kW γ A [(h, .inr (8, [.ref hg, .int (nI n), .int (nI q), .int (nI (q + 1)), .int t4, .int t5, .long t6, .ref (γ.2.2.2.2 0)])), (hg, .inl (γ.2.1 2, 1000, .inl f))] s H locs := hw
                refine W.eq (g2 := F0 m 228 ls [.int b_19, .ref h]) rfl ?_
                rcases g_20 with ⟨rfl, hS⟩ | ⟨rfl, hS⟩
                · refine lv_if_eq (tgt := 235) hx hb dX8_advance_228 (by decide) (fun h => absurd h (by decide)) (fun _ => ?_)
                  refine lv_iload_n hx hb dX8_advance_231 rfl (lv_at hl 0 rfl) ?_
                  refine lv_goto (tgt := 236) hx hb dX8_advance_232 (by decide) ?_
                  refine fs_RX8_37 hC hw 0 rfl rfl rfl (Nat.le_of_ble_eq_true rfl) dX8_advance_236 (fun H locs hw => ?_)
                  have hw : kW γ A [(h, .inr (8, [.ref hg, .int (nI n), .int (nI q), .int (nI (q + 1)), .int (f q), .int t5, .long t6, .ref (γ.2.2.2.2 0)])), (hg, .inl (γ.2.1 2, 1000, .inl f))] s H locs := hw
                  obtain ⟨e1, e2, e3, e4, e5⟩ := tS1 (x := t5) (y := t6) h8 (by first | rw [isL_lo c108]; decide | rw [isL_hi c114]; decide) (by first | rw [isD_lo c175]; decide | rw [isD_hi c181]; decide) hS
                  have hw : kW γ A [(h, .inr (8, [.ref hg, .int (nI n), .int (nI F), .int (nI (te1 f n F)), .int (tk1 f n F), .int (tn1 f n F t5), .long (tl1 f n F t6), .ref (γ.2.2.2.2 (tw1 f n F))])), (hg, .inl (γ.2.1 2, 1000, .inl f))] s H locs := by rw [← hF9, e1, e2, e3, e4, e5]; exact hw
                  exact k_vret hC hr hlocks hw [0, 1] rfl rfl ⟨rfl, rfl⟩ (by decide) (by decide) dX8_advance_239
                · refine lv_if_eq (tgt := 235) hx hb dX8_advance_228 (by decide) (fun _ => ?_) (fun h => absurd (by decide) h)
                  refine lv_iconst (v := 3) hx hb dX8_advance_235 (by decide) ?_
                  refine fs_RX8_37 hC hw 0 rfl rfl rfl (Nat.le_of_ble_eq_true rfl) dX8_advance_236 (fun H locs hw => ?_)
                  have hw : kW γ A [(h, .inr (8, [.ref hg, .int (nI n), .int (nI q), .int (nI (q + 1)), .int 3, .int t5, .long t6, .ref (γ.2.2.2.2 0)])), (hg, .inl (γ.2.1 2, 1000, .inl f))] s H locs := hw
                  obtain ⟨e1, e2, e3, e4, e5⟩ := tS3 (x := t5) (y := t6) h8 (by first | rw [isL_lo c108]; decide | rw [isL_hi c114]; decide) (by first | rw [isD_lo c175]; decide | rw [isD_hi c181]; decide) (by rw [hS]; decide)
                  have hw : kW γ A [(h, .inr (8, [.ref hg, .int (nI n), .int (nI F), .int (nI (te1 f n F)), .int (tk1 f n F), .int (tn1 f n F t5), .long (tl1 f n F t6), .ref (γ.2.2.2.2 (tw1 f n F))])), (hg, .inl (γ.2.1 2, 1000, .inl f))] s H locs := by rw [← hF9, e1, e2, e3, e4, e5]; exact hw
                  exact k_vret hC hr hlocks hw [0, 1] rfl rfl ⟨rfl, rfl⟩ (by decide) (by decide) dX8_advance_239
              · refine lv_aload_n hx hb dX8_advance_184 rfl (lv_at hl 1 rfl) ?_
                refine k_V (wr := []) 0 gw_476 gw_478 gp_2 gw_2 gw_479 hd_X8_readDigits hC hw (c_X8_readDigits γ l h hg (nI q) t4 t5 t6 (γ.2.2.2.2 0) n q f hn (by omega)) ⟨by decide, by decide⟩ ⟨by decide, by decide⟩ hl.1 rfl 0 rfl rfl rfl (Nat.le_of_ble_eq_true rfl) [0, 1] [] rfl rfl rfl rfl (by decide) dX8_advance_185 (fun r w1 H locs hq hw => ?_)
                obtain ⟨rfl, rfl⟩ := hq
                have hw : kW γ A [(h, .inr (8, [.ref hg, .int (nI n), .int (nI q), .int (nI (rn isD f n q)), .int t4, .int (vd f q (rn isD f n q - q)), .long t6, .ref (γ.2.2.2.2 0)])), (hg, .inl (γ.2.1 2, 1000, .inl f))] s H locs := hw
                refine W.eq (g2 := F0 m 188 ls []) rfl ?_
                refine lv_aload_n hx hb dX8_advance_188 rfl (lv_at hl 1 rfl) ?_
                refine lv_aload_n hx hb dX8_advance_189 rfl (lv_at hl 1 rfl) ?_
                refine fg_RX8_28 hC hw 0 rfl rfl dX8_advance_190 ?_
                refine lv_aload_n hx hb dX8_advance_193 rfl (lv_at hl 1 rfl) ?_
                refine fg_RX8_34 hC hw 0 rfl rfl dX8_advance_194 ?_
                refine lv_isub hx hb dX8_advance_197 ?_
                refine lv_topi (fun x_21 ex_21 => ?_)
                obtain rfl : x_21 = (nI (rn isD f n q - q)) := ex_21.trans (nI_subI rn_ge (Nat.le_trans (rn_le (by omega)) hn))
                refine lv_iconst (v := 4) hx hb dX8_advance_198 (by decide) ?_
                refine lv_icmp_gt (tgt := 206) hx hb dX8_advance_199 (by decide) (fun c199 => ?_) (fun c199 => ?_)
                · have h199 : ¬ rn isD f n q - q ≤ 4 := by have h9 := (nI_ltI (a := 4) (b := rn isD f n q - q) (by decide) (by have h9 := rn_le (P := isD) (f := f) (n := n) (p := q) (by omega); omega)).mp c199; omega
                  refine lv_iconst (v := 3) hx hb dX8_advance_206 (by decide) ?_
                  refine fs_RX8_37 hC hw 0 rfl rfl rfl (Nat.le_of_ble_eq_true rfl) dX8_advance_207 (fun H locs hw => ?_)
                  have hw : kW γ A [(h, .inr (8, [.ref hg, .int (nI n), .int (nI q), .int (nI (rn isD f n q)), .int 3, .int (vd f q (rn isD f n q - q)), .long t6, .ref (γ.2.2.2.2 0)])), (hg, .inl (γ.2.1 2, 1000, .inl f))] s H locs := hw
                  refine lv_goto (tgt := 239) hx hb dX8_advance_210 (by decide) ?_
                  obtain ⟨e1, e2, e3, e4, e5⟩ := tD3 (x := t5) (y := t6) h8 (by first | rw [isL_lo c108]; decide | rw [isL_hi c114]; decide) (isD_ok c175 c181) h199
                  have hw : kW γ A [(h, .inr (8, [.ref hg, .int (nI n), .int (nI F), .int (nI (te1 f n F)), .int (tk1 f n F), .int (tn1 f n F t5), .long (tl1 f n F t6), .ref (γ.2.2.2.2 (tw1 f n F))])), (hg, .inl (γ.2.1 2, 1000, .inl f))] s H locs := by rw [← hF9, e1, e2, e3, e4, e5]; exact hw
                  exact k_vret hC hr hlocks hw [0, 1] rfl rfl ⟨rfl, rfl⟩ (by decide) (by decide) dX8_advance_239
                · have h199 : rn isD f n q - q ≤ 4 := by rcases Nat.lt_or_ge 4 (rn isD f n q - q) with h9 | h9; exact absurd (nI_lt h9 (by have h9 := rn_le (P := isD) (f := f) (n := n) (p := q) (by omega); omega)) c199; exact h9
                  refine lv_iconst (v := 2) hx hb dX8_advance_202 (by decide) ?_
                  refine lv_goto (tgt := 207) hx hb dX8_advance_203 (by decide) ?_
                  refine fs_RX8_37 hC hw 0 rfl rfl rfl (Nat.le_of_ble_eq_true rfl) dX8_advance_207 (fun H locs hw => ?_)
                  have hw : kW γ A [(h, .inr (8, [.ref hg, .int (nI n), .int (nI q), .int (nI (rn isD f n q)), .int 2, .int (vd f q (rn isD f n q - q)), .long t6, .ref (γ.2.2.2.2 0)])), (hg, .inl (γ.2.1 2, 1000, .inl f))] s H locs := hw
                  refine lv_goto (tgt := 239) hx hb dX8_advance_210 (by decide) ?_
                  obtain ⟨e1, e2, e3, e4, e5⟩ := tD2 (x := t5) (y := t6) h8 (by first | rw [isL_lo c108]; decide | rw [isL_hi c114]; decide) (isD_ok c175 c181) h199
                  have hw : kW γ A [(h, .inr (8, [.ref hg, .int (nI n), .int (nI F), .int (nI (te1 f n F)), .int (tk1 f n F), .int (tn1 f n F t5), .long (tl1 f n F t6), .ref (γ.2.2.2.2 (tw1 f n F))])), (hg, .inl (γ.2.1 2, 1000, .inl f))] s H locs := by rw [← hF9, e1, e2, e3, e4, e5]; exact hw
                  exact k_vret hC hr hlocks hw [0, 1] rfl rfl ⟨rfl, rfl⟩ (by decide) (by decide) dX8_advance_239
          · refine lv_iload_n hx hb dX8_advance_111 rfl (lv_at hl 0 rfl) ?_
            refine lv_bipush (v := 122) hx hb dX8_advance_112 (by decide) ?_
            refine lv_icmp_gt (tgt := 172) hx hb dX8_advance_114 (by decide) (fun c114 => ?_) (fun c114 => ?_)
            · refine lv_iload_n hx hb dX8_advance_172 rfl (lv_at hl 0 rfl) ?_
              refine lv_bipush (v := 48) hx hb dX8_advance_173 (by decide) ?_
              refine lv_icmp_lt (tgt := 213) hx hb dX8_advance_175 (by decide) (fun c175 => ?_) (fun c175 => ?_)
              · refine lv_aload_n hx hb dX8_advance_213 rfl (lv_at hl 1 rfl) ?_
                refine lv_dup hx hb dX8_advance_214 rfl ?_
                refine fg_RX8_28 hC hw 0 rfl rfl dX8_advance_215 ?_
                refine lv_iconst (v := 1) hx hb dX8_advance_218 (by decide) ?_
                refine lv_iadd hx hb dX8_advance_219 ?_
                refine lv_topi (fun x_22 ex_22 => ?_)
                obtain rfl : x_22 = (nI (q + 1)) := ex_22.trans (nI_1 q)
                refine fs_RX8_28 hC hw 0 rfl rfl rfl (Nat.le_of_ble_eq_true rfl) dX8_advance_220 (fun H locs hw => ?_)
                have hw : kW γ A [(h, .inr (8, [.ref hg, .int (nI n), .int (nI q), .int (nI (q + 1)), .int t4, .int t5, .long t6, .ref (γ.2.2.2.2 0)])), (hg, .inl (γ.2.1 2, 1000, .inl f))] s H locs := hw
                refine lv_aload_n hx hb dX8_advance_223 rfl (lv_at hl 1 rfl) ?_
                refine lv_iload_n hx hb dX8_advance_224 rfl (lv_at hl 0 rfl) ?_
                refine k_S (wr := [(h, .inr (8, [.ref hg, .int (nI n), .int (nI q), .int (nI (q + 1)), .int t4, .int t5, .long t6, .ref (γ.2.2.2.2 0)])), (hg, .inl (γ.2.1 2, 1000, .inl f))]) 1 gw_480 gw_481 gw_2 gw_482 hd_X8_isSign hC hw (c_X8_isSign γ l (f q)) ⟨by decide, by decide⟩ ⟨by decide, by decide⟩ hl.1 rfl rfl (Nat.le_of_ble_eq_true rfl) [] [0, 1] rfl rfl rfl rfl (by decide) dX8_advance_225 (fun r w1 H locs hq hw => ?_)
                obtain ⟨b_23, rfl, rfl, g_24⟩ := hq
                have hw : kW γ A [(h, .inr (8, [.ref hg, .int (nI n), .int (nI q), .int (nI (q + 1)), .int t4, .int t5, .long t6, .ref (γ.2.2.2.2 0)])), (hg, .inl (γ.2.1 2, 1000, .inl f))] s H locs := hw
                refine W.eq (g2 := F0 m 228 ls [.int b_23, .ref h]) rfl ?_
                rcases g_24 with ⟨rfl, hS⟩ | ⟨rfl, hS⟩
                · refine lv_if_eq (tgt := 235) hx hb dX8_advance_228 (by decide) (fun h => absurd h (by decide)) (fun _ => ?_)
                  refine lv_iload_n hx hb dX8_advance_231 rfl (lv_at hl 0 rfl) ?_
                  refine lv_goto (tgt := 236) hx hb dX8_advance_232 (by decide) ?_
                  refine fs_RX8_37 hC hw 0 rfl rfl rfl (Nat.le_of_ble_eq_true rfl) dX8_advance_236 (fun H locs hw => ?_)
                  have hw : kW γ A [(h, .inr (8, [.ref hg, .int (nI n), .int (nI q), .int (nI (q + 1)), .int (f q), .int t5, .long t6, .ref (γ.2.2.2.2 0)])), (hg, .inl (γ.2.1 2, 1000, .inl f))] s H locs := hw
                  obtain ⟨e1, e2, e3, e4, e5⟩ := tS1 (x := t5) (y := t6) h8 (by first | rw [isL_lo c108]; decide | rw [isL_hi c114]; decide) (by first | rw [isD_lo c175]; decide | rw [isD_hi c181]; decide) hS
                  have hw : kW γ A [(h, .inr (8, [.ref hg, .int (nI n), .int (nI F), .int (nI (te1 f n F)), .int (tk1 f n F), .int (tn1 f n F t5), .long (tl1 f n F t6), .ref (γ.2.2.2.2 (tw1 f n F))])), (hg, .inl (γ.2.1 2, 1000, .inl f))] s H locs := by rw [← hF9, e1, e2, e3, e4, e5]; exact hw
                  exact k_vret hC hr hlocks hw [0, 1] rfl rfl ⟨rfl, rfl⟩ (by decide) (by decide) dX8_advance_239
                · refine lv_if_eq (tgt := 235) hx hb dX8_advance_228 (by decide) (fun _ => ?_) (fun h => absurd (by decide) h)
                  refine lv_iconst (v := 3) hx hb dX8_advance_235 (by decide) ?_
                  refine fs_RX8_37 hC hw 0 rfl rfl rfl (Nat.le_of_ble_eq_true rfl) dX8_advance_236 (fun H locs hw => ?_)
                  have hw : kW γ A [(h, .inr (8, [.ref hg, .int (nI n), .int (nI q), .int (nI (q + 1)), .int 3, .int t5, .long t6, .ref (γ.2.2.2.2 0)])), (hg, .inl (γ.2.1 2, 1000, .inl f))] s H locs := hw
                  obtain ⟨e1, e2, e3, e4, e5⟩ := tS3 (x := t5) (y := t6) h8 (by first | rw [isL_lo c108]; decide | rw [isL_hi c114]; decide) (by first | rw [isD_lo c175]; decide | rw [isD_hi c181]; decide) (by rw [hS]; decide)
                  have hw : kW γ A [(h, .inr (8, [.ref hg, .int (nI n), .int (nI F), .int (nI (te1 f n F)), .int (tk1 f n F), .int (tn1 f n F t5), .long (tl1 f n F t6), .ref (γ.2.2.2.2 (tw1 f n F))])), (hg, .inl (γ.2.1 2, 1000, .inl f))] s H locs := by rw [← hF9, e1, e2, e3, e4, e5]; exact hw
                  exact k_vret hC hr hlocks hw [0, 1] rfl rfl ⟨rfl, rfl⟩ (by decide) (by decide) dX8_advance_239
              · refine lv_iload_n hx hb dX8_advance_178 rfl (lv_at hl 0 rfl) ?_
                refine lv_bipush (v := 57) hx hb dX8_advance_179 (by decide) ?_
                refine lv_icmp_gt (tgt := 213) hx hb dX8_advance_181 (by decide) (fun c181 => ?_) (fun c181 => ?_)
                · refine lv_aload_n hx hb dX8_advance_213 rfl (lv_at hl 1 rfl) ?_
                  refine lv_dup hx hb dX8_advance_214 rfl ?_
                  refine fg_RX8_28 hC hw 0 rfl rfl dX8_advance_215 ?_
                  refine lv_iconst (v := 1) hx hb dX8_advance_218 (by decide) ?_
                  refine lv_iadd hx hb dX8_advance_219 ?_
                  refine lv_topi (fun x_25 ex_25 => ?_)
                  obtain rfl : x_25 = (nI (q + 1)) := ex_25.trans (nI_1 q)
                  refine fs_RX8_28 hC hw 0 rfl rfl rfl (Nat.le_of_ble_eq_true rfl) dX8_advance_220 (fun H locs hw => ?_)
                  have hw : kW γ A [(h, .inr (8, [.ref hg, .int (nI n), .int (nI q), .int (nI (q + 1)), .int t4, .int t5, .long t6, .ref (γ.2.2.2.2 0)])), (hg, .inl (γ.2.1 2, 1000, .inl f))] s H locs := hw
                  refine lv_aload_n hx hb dX8_advance_223 rfl (lv_at hl 1 rfl) ?_
                  refine lv_iload_n hx hb dX8_advance_224 rfl (lv_at hl 0 rfl) ?_
                  refine k_S (wr := [(h, .inr (8, [.ref hg, .int (nI n), .int (nI q), .int (nI (q + 1)), .int t4, .int t5, .long t6, .ref (γ.2.2.2.2 0)])), (hg, .inl (γ.2.1 2, 1000, .inl f))]) 1 gw_480 gw_481 gw_2 gw_482 hd_X8_isSign hC hw (c_X8_isSign γ l (f q)) ⟨by decide, by decide⟩ ⟨by decide, by decide⟩ hl.1 rfl rfl (Nat.le_of_ble_eq_true rfl) [] [0, 1] rfl rfl rfl rfl (by decide) dX8_advance_225 (fun r w1 H locs hq hw => ?_)
                  obtain ⟨b_26, rfl, rfl, g_27⟩ := hq
                  have hw : kW γ A [(h, .inr (8, [.ref hg, .int (nI n), .int (nI q), .int (nI (q + 1)), .int t4, .int t5, .long t6, .ref (γ.2.2.2.2 0)])), (hg, .inl (γ.2.1 2, 1000, .inl f))] s H locs := hw
                  refine W.eq (g2 := F0 m 228 ls [.int b_26, .ref h]) rfl ?_
                  rcases g_27 with ⟨rfl, hS⟩ | ⟨rfl, hS⟩
                  · refine lv_if_eq (tgt := 235) hx hb dX8_advance_228 (by decide) (fun h => absurd h (by decide)) (fun _ => ?_)
                    refine lv_iload_n hx hb dX8_advance_231 rfl (lv_at hl 0 rfl) ?_
                    refine lv_goto (tgt := 236) hx hb dX8_advance_232 (by decide) ?_
                    refine fs_RX8_37 hC hw 0 rfl rfl rfl (Nat.le_of_ble_eq_true rfl) dX8_advance_236 (fun H locs hw => ?_)
                    have hw : kW γ A [(h, .inr (8, [.ref hg, .int (nI n), .int (nI q), .int (nI (q + 1)), .int (f q), .int t5, .long t6, .ref (γ.2.2.2.2 0)])), (hg, .inl (γ.2.1 2, 1000, .inl f))] s H locs := hw
                    obtain ⟨e1, e2, e3, e4, e5⟩ := tS1 (x := t5) (y := t6) h8 (by first | rw [isL_lo c108]; decide | rw [isL_hi c114]; decide) (by first | rw [isD_lo c175]; decide | rw [isD_hi c181]; decide) hS
                    have hw : kW γ A [(h, .inr (8, [.ref hg, .int (nI n), .int (nI F), .int (nI (te1 f n F)), .int (tk1 f n F), .int (tn1 f n F t5), .long (tl1 f n F t6), .ref (γ.2.2.2.2 (tw1 f n F))])), (hg, .inl (γ.2.1 2, 1000, .inl f))] s H locs := by rw [← hF9, e1, e2, e3, e4, e5]; exact hw
                    exact k_vret hC hr hlocks hw [0, 1] rfl rfl ⟨rfl, rfl⟩ (by decide) (by decide) dX8_advance_239
                  · refine lv_if_eq (tgt := 235) hx hb dX8_advance_228 (by decide) (fun _ => ?_) (fun h => absurd (by decide) h)
                    refine lv_iconst (v := 3) hx hb dX8_advance_235 (by decide) ?_
                    refine fs_RX8_37 hC hw 0 rfl rfl rfl (Nat.le_of_ble_eq_true rfl) dX8_advance_236 (fun H locs hw => ?_)
                    have hw : kW γ A [(h, .inr (8, [.ref hg, .int (nI n), .int (nI q), .int (nI (q + 1)), .int 3, .int t5, .long t6, .ref (γ.2.2.2.2 0)])), (hg, .inl (γ.2.1 2, 1000, .inl f))] s H locs := hw
                    obtain ⟨e1, e2, e3, e4, e5⟩ := tS3 (x := t5) (y := t6) h8 (by first | rw [isL_lo c108]; decide | rw [isL_hi c114]; decide) (by first | rw [isD_lo c175]; decide | rw [isD_hi c181]; decide) (by rw [hS]; decide)
                    have hw : kW γ A [(h, .inr (8, [.ref hg, .int (nI n), .int (nI F), .int (nI (te1 f n F)), .int (tk1 f n F), .int (tn1 f n F t5), .long (tl1 f n F t6), .ref (γ.2.2.2.2 (tw1 f n F))])), (hg, .inl (γ.2.1 2, 1000, .inl f))] s H locs := by rw [← hF9, e1, e2, e3, e4, e5]; exact hw
                    exact k_vret hC hr hlocks hw [0, 1] rfl rfl ⟨rfl, rfl⟩ (by decide) (by decide) dX8_advance_239
                · refine lv_aload_n hx hb dX8_advance_184 rfl (lv_at hl 1 rfl) ?_
                  refine k_V (wr := []) 0 gw_476 gw_478 gp_2 gw_2 gw_479 hd_X8_readDigits hC hw (c_X8_readDigits γ l h hg (nI q) t4 t5 t6 (γ.2.2.2.2 0) n q f hn (by omega)) ⟨by decide, by decide⟩ ⟨by decide, by decide⟩ hl.1 rfl 0 rfl rfl rfl (Nat.le_of_ble_eq_true rfl) [0, 1] [] rfl rfl rfl rfl (by decide) dX8_advance_185 (fun r w1 H locs hq hw => ?_)
                  obtain ⟨rfl, rfl⟩ := hq
                  have hw : kW γ A [(h, .inr (8, [.ref hg, .int (nI n), .int (nI q), .int (nI (rn isD f n q)), .int t4, .int (vd f q (rn isD f n q - q)), .long t6, .ref (γ.2.2.2.2 0)])), (hg, .inl (γ.2.1 2, 1000, .inl f))] s H locs := hw
                  refine W.eq (g2 := F0 m 188 ls []) rfl ?_
                  refine lv_aload_n hx hb dX8_advance_188 rfl (lv_at hl 1 rfl) ?_
                  refine lv_aload_n hx hb dX8_advance_189 rfl (lv_at hl 1 rfl) ?_
                  refine fg_RX8_28 hC hw 0 rfl rfl dX8_advance_190 ?_
                  refine lv_aload_n hx hb dX8_advance_193 rfl (lv_at hl 1 rfl) ?_
                  refine fg_RX8_34 hC hw 0 rfl rfl dX8_advance_194 ?_
                  refine lv_isub hx hb dX8_advance_197 ?_
                  refine lv_topi (fun x_28 ex_28 => ?_)
                  obtain rfl : x_28 = (nI (rn isD f n q - q)) := ex_28.trans (nI_subI rn_ge (Nat.le_trans (rn_le (by omega)) hn))
                  refine lv_iconst (v := 4) hx hb dX8_advance_198 (by decide) ?_
                  refine lv_icmp_gt (tgt := 206) hx hb dX8_advance_199 (by decide) (fun c199 => ?_) (fun c199 => ?_)
                  · have h199 : ¬ rn isD f n q - q ≤ 4 := by have h9 := (nI_ltI (a := 4) (b := rn isD f n q - q) (by decide) (by have h9 := rn_le (P := isD) (f := f) (n := n) (p := q) (by omega); omega)).mp c199; omega
                    refine lv_iconst (v := 3) hx hb dX8_advance_206 (by decide) ?_
                    refine fs_RX8_37 hC hw 0 rfl rfl rfl (Nat.le_of_ble_eq_true rfl) dX8_advance_207 (fun H locs hw => ?_)
                    have hw : kW γ A [(h, .inr (8, [.ref hg, .int (nI n), .int (nI q), .int (nI (rn isD f n q)), .int 3, .int (vd f q (rn isD f n q - q)), .long t6, .ref (γ.2.2.2.2 0)])), (hg, .inl (γ.2.1 2, 1000, .inl f))] s H locs := hw
                    refine lv_goto (tgt := 239) hx hb dX8_advance_210 (by decide) ?_
                    obtain ⟨e1, e2, e3, e4, e5⟩ := tD3 (x := t5) (y := t6) h8 (by first | rw [isL_lo c108]; decide | rw [isL_hi c114]; decide) (isD_ok c175 c181) h199
                    have hw : kW γ A [(h, .inr (8, [.ref hg, .int (nI n), .int (nI F), .int (nI (te1 f n F)), .int (tk1 f n F), .int (tn1 f n F t5), .long (tl1 f n F t6), .ref (γ.2.2.2.2 (tw1 f n F))])), (hg, .inl (γ.2.1 2, 1000, .inl f))] s H locs := by rw [← hF9, e1, e2, e3, e4, e5]; exact hw
                    exact k_vret hC hr hlocks hw [0, 1] rfl rfl ⟨rfl, rfl⟩ (by decide) (by decide) dX8_advance_239
                  · have h199 : rn isD f n q - q ≤ 4 := by rcases Nat.lt_or_ge 4 (rn isD f n q - q) with h9 | h9; exact absurd (nI_lt h9 (by have h9 := rn_le (P := isD) (f := f) (n := n) (p := q) (by omega); omega)) c199; exact h9
                    refine lv_iconst (v := 2) hx hb dX8_advance_202 (by decide) ?_
                    refine lv_goto (tgt := 207) hx hb dX8_advance_203 (by decide) ?_
                    refine fs_RX8_37 hC hw 0 rfl rfl rfl (Nat.le_of_ble_eq_true rfl) dX8_advance_207 (fun H locs hw => ?_)
                    have hw : kW γ A [(h, .inr (8, [.ref hg, .int (nI n), .int (nI q), .int (nI (rn isD f n q)), .int 2, .int (vd f q (rn isD f n q - q)), .long t6, .ref (γ.2.2.2.2 0)])), (hg, .inl (γ.2.1 2, 1000, .inl f))] s H locs := hw
                    refine lv_goto (tgt := 239) hx hb dX8_advance_210 (by decide) ?_
                    obtain ⟨e1, e2, e3, e4, e5⟩ := tD2 (x := t5) (y := t6) h8 (by first | rw [isL_lo c108]; decide | rw [isL_hi c114]; decide) (isD_ok c175 c181) h199
                    have hw : kW γ A [(h, .inr (8, [.ref hg, .int (nI n), .int (nI F), .int (nI (te1 f n F)), .int (tk1 f n F), .int (tn1 f n F t5), .long (tl1 f n F t6), .ref (γ.2.2.2.2 (tw1 f n F))])), (hg, .inl (γ.2.1 2, 1000, .inl f))] s H locs := by rw [← hF9, e1, e2, e3, e4, e5]; exact hw
                    exact k_vret hC hr hlocks hw [0, 1] rfl rfl ⟨rfl, rfl⟩ (by decide) (by decide) dX8_advance_239
            · refine lv_aload_n hx hb dX8_advance_117 rfl (lv_at hl 1 rfl) ?_
              refine k_V (wr := []) 0 gw_464 gw_466 gp_1 gw_2 gw_467 hd_X8_readLetters hC hw (c_X8_readLetters γ l h hg (nI q) t4 t5 t6 (γ.2.2.2.2 0) n q f hn (by omega)) ⟨by decide, by decide⟩ ⟨by decide, by decide⟩ hl.1 rfl 0 rfl rfl rfl (Nat.le_of_ble_eq_true rfl) [0, 1] [] rfl rfl rfl rfl (by decide) dX8_advance_118 (fun r w1 H locs hq hw => ?_)
              obtain ⟨rfl, rfl⟩ := hq
              have hw : kW γ A [(h, .inr (8, [.ref hg, .int (nI n), .int (nI q), .int (nI (rn isL f n q)), .int t4, .int t5, .long (vl 32 f q (rn isL f n q - q)), .ref (γ.2.2.2.2 0)])), (hg, .inl (γ.2.1 2, 1000, .inl f))] s H locs := hw
              refine W.eq (g2 := F0 m 121 ls []) rfl ?_
              refine lv_aload_n hx hb dX8_advance_121 rfl (lv_at hl 1 rfl) ?_
              refine lv_aload_n hx hb dX8_advance_122 rfl (lv_at hl 1 rfl) ?_
              refine fg_RX8_28 hC hw 0 rfl rfl dX8_advance_123 ?_
              refine lv_aload_n hx hb dX8_advance_126 rfl (lv_at hl 1 rfl) ?_
              refine fg_RX8_34 hC hw 0 rfl rfl dX8_advance_127 ?_
              refine lv_isub hx hb dX8_advance_130 ?_
              refine lv_topi (fun x_29 ex_29 => ?_)
              obtain rfl : x_29 = (nI (rn isL f n q - q)) := ex_29.trans (nI_subI rn_ge (Nat.le_trans (rn_le (by omega)) hn))
              refine lv_bipush (v := 8) hx hb dX8_advance_131 (by decide) ?_
              refine lv_icmp_gt (tgt := 140) hx hb dX8_advance_133 (by decide) (fun c133 => ?_) (fun c133 => ?_)
              · have h133 : ¬ rn isL f n q - q ≤ 8 := by have h9 := (nI_ltI (a := 8) (b := rn isL f n q - q) (by decide) (by have h9 := rn_le (P := isL) (f := f) (n := n) (p := q) (by omega); omega)).mp c133; omega
                refine lv_iconst (v := 3) hx hb dX8_advance_140 (by decide) ?_
                refine fs_RX8_37 hC hw 0 rfl rfl rfl (Nat.le_of_ble_eq_true rfl) dX8_advance_141 (fun H locs hw => ?_)
                have hw : kW γ A [(h, .inr (8, [.ref hg, .int (nI n), .int (nI q), .int (nI (rn isL f n q)), .int 3, .int t5, .long (vl 32 f q (rn isL f n q - q)), .ref (γ.2.2.2.2 0)])), (hg, .inl (γ.2.1 2, 1000, .inl f))] s H locs := hw
                refine lv_aload_n hx hb dX8_advance_144 rfl (lv_at hl 1 rfl) ?_
                refine lv_aload_n hx hb dX8_advance_145 rfl (lv_at hl 1 rfl) ?_
                refine fg_RX8_37 hC hw 0 rfl rfl dX8_advance_146 ?_
                refine lv_iconst (v := 1) hx hb dX8_advance_149 (by decide) ?_
                refine lv_icmp_ne (tgt := 163) hx hb dX8_advance_150 (by decide) (fun _ => ?_) (fun h => absurd h (by decide))
                refine k_word hC hw (n := 0) (by decide) gw_37 dX8_advance_163 ?_
                refine fs_RX8_21 hC hw 0 rfl rfl rfl (Nat.le_of_ble_eq_true rfl) dX8_advance_166 (fun H locs hw => ?_)
                have hw : kW γ A [(h, .inr (8, [.ref hg, .int (nI n), .int (nI q), .int (nI (rn isL f n q)), .int 3, .int t5, .long (vl 32 f q (rn isL f n q - q)), .ref (γ.2.2.2.2 0)])), (hg, .inl (γ.2.1 2, 1000, .inl f))] s H locs := hw
                refine lv_goto (tgt := 239) hx hb dX8_advance_169 (by decide) ?_
                obtain ⟨e1, e2, e3, e4, e5⟩ := tL3 (x := t5) (y := t6) h8 (isL_ok c108 c114) h133
                have hw : kW γ A [(h, .inr (8, [.ref hg, .int (nI n), .int (nI F), .int (nI (te1 f n F)), .int (tk1 f n F), .int (tn1 f n F t5), .long (tl1 f n F t6), .ref (γ.2.2.2.2 (tw1 f n F))])), (hg, .inl (γ.2.1 2, 1000, .inl f))] s H locs := by rw [← hF9, e1, e2, e3, e4, e5]; exact hw
                exact k_vret hC hr hlocks hw [0, 1] rfl rfl ⟨rfl, rfl⟩ (by decide) (by decide) dX8_advance_239
              · have h133 : rn isL f n q - q ≤ 8 := by rcases Nat.lt_or_ge 8 (rn isL f n q - q) with h9 | h9; exact absurd (nI_lt h9 (by have h9 := rn_le (P := isL) (f := f) (n := n) (p := q) (by omega); omega)) c133; exact h9
                refine lv_iconst (v := 1) hx hb dX8_advance_136 (by decide) ?_
                refine lv_goto (tgt := 141) hx hb dX8_advance_137 (by decide) ?_
                refine fs_RX8_37 hC hw 0 rfl rfl rfl (Nat.le_of_ble_eq_true rfl) dX8_advance_141 (fun H locs hw => ?_)
                have hw : kW γ A [(h, .inr (8, [.ref hg, .int (nI n), .int (nI q), .int (nI (rn isL f n q)), .int 1, .int t5, .long (vl 32 f q (rn isL f n q - q)), .ref (γ.2.2.2.2 0)])), (hg, .inl (γ.2.1 2, 1000, .inl f))] s H locs := hw
                refine lv_aload_n hx hb dX8_advance_144 rfl (lv_at hl 1 rfl) ?_
                refine lv_aload_n hx hb dX8_advance_145 rfl (lv_at hl 1 rfl) ?_
                refine fg_RX8_37 hC hw 0 rfl rfl dX8_advance_146 ?_
                refine lv_iconst (v := 1) hx hb dX8_advance_149 (by decide) ?_
                refine lv_icmp_ne (tgt := 163) hx hb dX8_advance_150 (by decide) (fun h => absurd rfl h) (fun _ => ?_)
                refine lv_aload_n hx hb dX8_advance_153 rfl (lv_at hl 1 rfl) ?_
                refine fg_RX8_43 hC hw 0 rfl rfl dX8_advance_154 ?_
                refine k_S (wr := [(h, .inr (8, [.ref hg, .int (nI n), .int (nI q), .int (nI (rn isL f n q)), .int 1, .int t5, .long (vl 32 f q (rn isL f n q - q)), .ref (γ.2.2.2.2 0)])), (hg, .inl (γ.2.1 2, 1000, .inl f))]) 1 gw_469 gw_470 gw_4 gw_471 hd_X10_of hC hw (c_wof γ l (vl 32 f q (rn isL f n q - q))) ⟨by decide, by decide⟩ ⟨by decide, by decide⟩ hl.1 rfl rfl (Nat.le_of_ble_eq_true rfl) [] [0, 1] rfl rfl rfl rfl (by decide) dX8_advance_157 (fun r w1 H locs hq hw => ?_)
                obtain ⟨rfl, rfl⟩ := hq
                have hw : kW γ A [(h, .inr (8, [.ref hg, .int (nI n), .int (nI q), .int (nI (rn isL f n q)), .int 1, .int t5, .long (vl 32 f q (rn isL f n q - q)), .ref (γ.2.2.2.2 0)])), (hg, .inl (γ.2.1 2, 1000, .inl f))] s H locs := hw
                refine W.eq (g2 := F0 m 160 ls [.ref (γ.2.2.2.2 (wof (vl 32 f q (rn isL f n q - q)))), .ref h]) rfl ?_
                refine lv_goto (tgt := 166) hx hb dX8_advance_160 (by decide) ?_
                refine fs_RX8_21 hC hw 0 rfl rfl rfl (Nat.le_of_ble_eq_true rfl) dX8_advance_166 (fun H locs hw => ?_)
                have hw : kW γ A [(h, .inr (8, [.ref hg, .int (nI n), .int (nI q), .int (nI (rn isL f n q)), .int 1, .int t5, .long (vl 32 f q (rn isL f n q - q)), .ref (γ.2.2.2.2 (wof (vl 32 f q (rn isL f n q - q))))])), (hg, .inl (γ.2.1 2, 1000, .inl f))] s H locs := hw
                refine lv_goto (tgt := 239) hx hb dX8_advance_169 (by decide) ?_
                obtain ⟨e1, e2, e3, e4, e5⟩ := tL1 (x := t5) (y := t6) h8 (isL_ok c108 c114) h133
                have hw : kW γ A [(h, .inr (8, [.ref hg, .int (nI n), .int (nI F), .int (nI (te1 f n F)), .int (tk1 f n F), .int (tn1 f n F t5), .long (tl1 f n F t6), .ref (γ.2.2.2.2 (tw1 f n F))])), (hg, .inl (γ.2.1 2, 1000, .inl f))] s H locs := by rw [← hF9, e1, e2, e3, e4, e5]; exact hw
                exact k_vret hC hr hlocks hw [0, 1] rfl rfl ⟨rfl, rfl⟩ (by decide) (by decide) dX8_advance_239
        · refine lv_aload_n hx hb dX8_advance_39 rfl (lv_at hl 0 rfl) ?_
          refine lv_dup hx hb dX8_advance_40 rfl ?_
          refine fg_RX8_28 hC hw 0 rfl rfl dX8_advance_41 ?_
          refine lv_iconst (v := 1) hx hb dX8_advance_44 (by decide) ?_
          refine lv_iadd hx hb dX8_advance_45 ?_
          refine lv_topi (fun x_30 ex_30 => ?_)
          obtain rfl : x_30 = (nI (q + 1)) := ex_30.trans (nI_1 q)
          refine fs_RX8_28 hC hw 0 rfl rfl rfl (Nat.le_of_ble_eq_true rfl) dX8_advance_46 (fun H locs hw => ?_)
          have hw : kW γ A [(h, .inr (8, [.ref hg, .int (nI n), .int t2, .int (nI (q + 1)), .int t4, .int t5, .long t6, .ref t7])), (hg, .inl (γ.2.1 2, 1000, .inl f))] s H locs := hw
          refine lv_goto (tgt := 0) hx hb dX8_advance_49 (by decide) ?_
          exact ih (q + 1) (by omega) (by omega) ((rn_go h8 (by first | exact isB_y1 c22 | exact isB_y2 (Decidable.not_not.mp c36) | exact isB_y2 c36)).symm.trans hF) _ _ (kW.sub hw [0, 1] rfl rfl) _ (lv_sub hl [0] rfl)

set_option maxHeartbeats 4000000 in
set_option maxRecDepth 100000 in
theorem c_X8_advance (γ : kΓ) (l : Launch) (h : Nat) (hg : Nat) (t2 : Int32) (t4 : Int32) (t5 : Int32) (t6 : Int64) (t7 : Nat) (n : Nat) (p : Nat) (f : Nat → Int32) (hn : n ≤ 1000) (hp : p ≤ n) (hok : ∀ k, k < n → kok (f k) = true) : kM γ l yX8_advance cX8_advance 2 none ({ frames := 1, cells := 0, slots := 0, locals := 40 } : Room) [.ref h] [(h, .inr (8, [.ref hg, .int (nI n), .int t2, .int (nI p), .int t4, .int t5, .long t6, .ref t7])), (hg, .inl (γ.2.1 2, 1000, .inl f))] (fun r w1 => r = none ∧ w1 = (tWd γ h hg n f p (tn f n p t5) (tl f n p t6))) := by
  refine k_ofW (by decide) (Nat.le_of_ble_eq_true rfl) ?_
  intro p9 e s m below meth c A ls hC hr hlocks hname hw hl
  have hx := hC.1
  have hb := hC.2.1
  have hl : lv_has ls 2 [(0, .ref h)] := hl
  exact lp_adv h hg t2 t4 t5 t6 t7 n p f (ts f n p) hn hok hC hr hlocks (n + 1) p (by omega) hp (ts_eq hp) _ _ hw _ hl


def pg_X11_rests : qPg := [[some (.iload_n 1, 1), some (.invokestatic 328, 3), none, none, some (.ifCond .eq 23, 3), none, none, some (.iload_n 2, 1), some (.invokestatic 328, 3), none, none, some (.ifCond .eq 16, 3), none, none, some (.iload_n 3, 1), some (.invokestatic 328, 3)], [none, none, some (.ifCond .eq 9, 3), none, none, some (.iload 4, 2), none, some (.iconst (-1), 1), some (.if_icmp .ge 11, 3), none, none, some (.new 225, 3), none, none, some (.dup, 1), some (.invokespecial 227, 3)], [none, none, some (.athrow, 1), some (.iconst 0, 1), some (.istore 5, 2), none, some (.iconst 0, 1), some (.istore 6, 2), none, some (.iload 6, 2), none, some (.iconst 4, 1), some (.if_icmp .ge 60, 3), none, none, some (.iload 6, 2)], [none, some (.iconst 1, 1), some (.ishr, 1), some (.istore 7, 2), none, some (.iload 6, 2), none, some (.iconst 1, 1), some (.iand, 1), some (.istore 8, 2), none, some (.iload 7, 2), none, some (.iload 8, 2), none, some (.iload_n 1, 1)], [some (.iload_n 2, 1), some (.iload_n 3, 1), some (.invokestatic 331, 3), none, none, some (.ifCond .eq 29, 3), none, none, some (.iload 8, 2), none, some (.iload 7, 2), none, some (.iload_n 1, 1), some (.iload_n 2, 1), some (.iload_n 3, 1), some (.invokestatic 331, 3)], [none, none, some (.ifCond .eq 16, 3), none, none, some (.iload 5, 2), none, some (.iload 4, 2), none, some (.if_icmp .ne 6, 3), none, none, some (.iload 6, 2), none, some (.ireturn, 1), some (.iinc 5 1, 3)], [none, none, some (.iinc 6 1, 3), none, none, some (.goto (-60), 3), none, none, some (.iload 4, 2), none, some (.iconst (-1), 1), some (.if_icmp .eq 11, 3), none, none, some (.new 225, 3)], [none, some (.dup, 1), some (.invokespecial 227, 3), none, none, some (.athrow, 1), some (.iload 5, 2), none, some (.ireturn, 1)]]
theorem pk_X11_rests : qPgk pg_X11_rests cX11_rests = true := by decide +kernel
def ctbR_RX11 : qTb := ([], [(328, 1, 91, 1, 0), (331, 1, 90, 5, 0)], [], [], [], [], [])
theorem ctkR_RX11 : qTbk RX11 cMT ctbR_RX11 := ⟨q_f0, (q_f1 (.inl ⟨_, rfl, gw_1, gw_1155, hd_X11_isStake, .inr (.inl ⟨rfl, gw_1153, gw_1154⟩)⟩ : qlk4 RX11 cMT (328, 1, 91, 1, 0)) (q_f1 (.inl ⟨_, rfl, gw_1, gw_1158, hd_X11_isContent, .inr (.inl ⟨rfl, gw_1156, gw_1157⟩)⟩ : qlk4 RX11 cMT (331, 1, 90, 5, 0)) q_f0)), q_f0, q_f0, q_f0, q_f0, q_f0⟩
def cT_judged : qCon := ((0, 7, 180), [(2, 0, 0), (0, (-2147483648), 2147483647)], [], [], [(some (0, (-2147483648), 2147483647), [], [(1, 0, 2)], [], none)], [(6, 1, 3), (29, 0, 31), (30, 6, 8), (31, 0, 4), (32, 0, 4), (33, 0, 4), (34, 0, 4), (35, 0, 39), (36, 0, 7)])
theorem ct_judged (γ : kΓ) (l : Launch) (hl9 : l.stackTraces = false) {adr : List Nat} {ws : va_W} {av : List Value} (hp : qPre cD γ (fun _ => True) cT_judged adr ws av) : kMT γ l yX11_judged cX11_judged 2 (some .int) { frames := 7, cells := 1, slots := 6, locals := 180 } av ws (qPost cD γ (fun _ => True) cT_judged adr ws av) (fun w1 => qH cD γ adr (fun _ _ => False) w1 ∧ True ∧ qK cD cT_judged.2.2.2.2.2 ws w1) := q_semT (γ := γ) (l := l) (D := cD) (X := fun _ => True) (MT := cMT) (c := cT_judged) (yn := yX11_judged) (cc := cX11_judged) (nL := 2) (adr := adr) (ws := ws) (av := av) (xr := []) (tb := ctb_RX11) (B := [cn_162, cn_221]) (T := pg_X11_judged) (thr := [9]) (sps := []) (cuts := []) (fu := 3000) hl9 cDok rfl (fun _ _ _ _ _ _ _ _ _ _ _ => trivial) ctk_RX11 (q_f1 (cs_162 γ l) (q_f1 (cs_221 γ l) q_f0)) pk_X11_judged (by decide +kernel) (by
  intro pc hpc
  simp only [List.mem_cons, List.mem_nil_iff, or_false] at hpc
  rcases hpc with rfl
  · exact ⟨by decide +kernel, by decide +kernel, by decide +kernel, by decide +kernel⟩) (by decide) (by decide) hp
def cT_best : qCon := ((0, 14, 368), [(2, 0, 0), (0, (-2147483648), 2147483647), (0, (-2147483648), 2147483647), (0, (-2147483648), 2147483647)], [], [], [(some (0, (-2147483648), 2147483647), [], [(1, 0, 4), (2, 1, 5), (3, (-1), 4)], [], none)], [(10, 4, 5), (11, 0, 4), (12, 0, 39), (13, 0, 4), (14, 0, 879), (29, 0, 31)])
theorem ct_best (γ : kΓ) (l : Launch) (hl9 : l.stackTraces = false) {adr : List Nat} {ws : va_W} {av : List Value} (hp : qPre cD γ (fun _ => True) cT_best adr ws av) : kMT γ l yX11_best cX11_best 5 (some .int) { frames := 14, cells := 1, slots := 6, locals := 368 } av ws (qPost cD γ (fun _ => True) cT_best adr ws av) (fun w1 => qH cD γ adr (fun _ _ => False) w1 ∧ True ∧ qK cD cT_best.2.2.2.2.2 ws w1) := q_semT (γ := γ) (l := l) (D := cD) (X := fun _ => True) (MT := cMT) (c := cT_best) (yn := yX11_best) (cc := cX11_best) (nL := 5) (adr := adr) (ws := ws) (av := av) (xr := []) (tb := ctb_RX11) (B := [cn_102, cn_217]) (T := pg_X11_best) (thr := [28, 65]) (sps := []) (cuts := []) (fu := 3000) hl9 cDok rfl (fun _ _ _ _ _ _ _ _ _ _ _ => trivial) ctk_RX11 (q_f1 (cs_102 γ l) (q_f1 (cs_217 γ l) q_f0)) pk_X11_best (by decide +kernel) (by
  intro pc hpc
  simp only [List.mem_cons, List.mem_nil_iff, or_false] at hpc
  rcases hpc with rfl | rfl
  · exact ⟨by decide +kernel, by decide +kernel, by decide +kernel, by decide +kernel⟩
  · exact ⟨by decide +kernel, by decide +kernel, by decide +kernel, by decide +kernel⟩) (by decide) (by decide) hp
def cT_lives : qCon := ((0, 6, 155), [(2, 0, 0), (0, (-2147483648), 2147483647), (0, (-2147483648), 2147483647), (0, (-2147483648), 2147483647)], [], [], [(some (0, (-2147483648), 2147483647), [], [(1, 0, 9999), (2, 1, 99), (3, 0, 2)], [], none)], [(6, 1, 1), (6, 4, 4), (29, 0, 31), (30, 6, 8), (31, 0, 4), (32, 0, 4), (33, 0, 4), (34, 0, 4), (35, 0, 39), (36, 0, 7)])
theorem ct_lives (γ : kΓ) (l : Launch) (hl9 : l.stackTraces = false) {adr : List Nat} {ws : va_W} {av : List Value} (hp : qPre cD γ (fun _ => True) cT_lives adr ws av) : kMT γ l yX11_lives cX11_lives 4 (some .int) { frames := 6, cells := 1, slots := 6, locals := 155 } av ws (qPost cD γ (fun _ => True) cT_lives adr ws av) (fun w1 => qH cD γ adr (fun _ _ => False) w1 ∧ True ∧ qK cD cT_lives.2.2.2.2.2 ws w1) := q_semT (γ := γ) (l := l) (D := cD) (X := fun _ => True) (MT := cMT) (c := cT_lives) (yn := yX11_lives) (cc := cX11_lives) (nL := 4) (adr := adr) (ws := ws) (av := av) (xr := []) (tb := ctb_RX11) (B := [cn_220, cn_221]) (T := pg_X11_lives) (thr := [31]) (sps := []) (cuts := []) (fu := 3000) hl9 cDok rfl (fun _ _ _ _ _ _ _ _ _ _ _ => trivial) ctk_RX11 (q_f1 (cs_220 γ l) (q_f1 (cs_221 γ l) q_f0)) pk_X11_lives (by decide +kernel) (by
  intro pc hpc
  simp only [List.mem_cons, List.mem_nil_iff, or_false] at hpc
  rcases hpc with rfl
  · exact ⟨by decide +kernel, by decide +kernel, by decide +kernel, by decide +kernel⟩) (by decide) (by decide) hp
def cT_rests : qCon := ((0, 6, 81), [(2, 0, 0), (0, (-2147483648), 2147483647), (0, (-2147483648), 2147483647), (0, (-2147483648), 2147483647), (0, (-2147483648), 2147483647)], [], [], [(some (0, (-2147483648), 2147483647), [], [(1, 0, 9), (2, 0, 9), (3, 0, 9), (4, (-1), 2147483647)], [], none)], [])
theorem ct_rests (γ : kΓ) (l : Launch) (hl9 : l.stackTraces = false) {adr : List Nat} {ws : va_W} {av : List Value} (hp : qPre cD γ (fun _ => True) cT_rests adr ws av) : kMT γ l yX11_rests cX11_rests 9 (some .int) { frames := 6, cells := 1, slots := 6, locals := 81 } av ws (qPost cD γ (fun _ => True) cT_rests adr ws av) (fun w1 => qH cD γ adr (fun _ _ => False) w1 ∧ True ∧ qK cD cT_rests.2.2.2.2.2 ws w1) := q_semT (γ := γ) (l := l) (D := cD) (X := fun _ => True) (MT := cMT) (c := cT_rests) (yn := yX11_rests) (cc := cX11_rests) (nL := 9) (adr := adr) (ws := ws) (av := av) (xr := []) (tb := ctbR_RX11) (B := [cn_134, cn_135]) (T := pg_X11_rests) (thr := [27, 110]) (sps := []) (cuts := [(41, (([(0, 9), (0, 9), (0, 9), ((-1), 2147483647), (0, 4), ((-2147483648), 2147483647)], [], []), ([(6, (0, 4, 0)), (5, (0, 5, 0)), (0, (3, 0, 0)), (1, (0, 0, 0)), (2, (0, 1, 0)), (3, (0, 2, 0)), (4, (0, 3, 0))], []), ([], [], [])), (4, [((-1), 4)]))]) (fu := 3000) hl9 cDok rfl (fun _ _ _ _ _ _ _ _ _ _ _ => trivial) ctkR_RX11 (q_f1 (cs_134 γ l) (q_f1 (cs_135 γ l) q_f0)) pk_X11_rests (by decide +kernel) (by
  intro pc hpc
  simp only [List.mem_cons, List.mem_nil_iff, or_false] at hpc
  rcases hpc with rfl | rfl
  · exact ⟨by decide +kernel, by decide +kernel, by decide +kernel, by decide +kernel⟩
  · exact ⟨by decide +kernel, by decide +kernel, by decide +kernel, by decide +kernel⟩) (by decide) (by decide) hp
theorem dL_judged_0 : decode cL_judged 0 = .ok (.aload_n 2, 1) := by decide +kernel
theorem dL_judged_1 : decode cL_judged 1 = .ok (.iconst 0, 1) := by decide +kernel
theorem dL_judged_2 : decode cL_judged 2 = .ok (.aload_n 0, 1) := by decide +kernel
theorem dL_judged_3 : decode cL_judged 3 = .ok (.iload_n 1, 1) := by decide +kernel
theorem dL_judged_4 : decode cL_judged 4 = .ok (.invokevirtual 7, 3) := by decide +kernel
theorem dL_judged_7 : decode cL_judged 7 = .ok (.i2l, 1) := by decide +kernel
theorem dL_judged_8 : decode cL_judged 8 = .ok (.lastore, 1) := by decide +kernel
theorem dL_judged_9 : decode cL_judged 9 = .ok (.goto 6, 3) := by decide +kernel
theorem dL_judged_12 : decode cL_judged 12 = .ok (.astore_n 3, 1) := by decide +kernel
theorem dL_judged_13 : decode cL_judged 13 = .ok (.iconst 1, 1) := by decide +kernel
theorem dL_judged_14 : decode cL_judged 14 = .ok (.ireturn, 1) := by decide +kernel
theorem dL_judged_15 : decode cL_judged 15 = .ok (.iconst 0, 1) := by decide +kernel
theorem dL_judged_16 : decode cL_judged 16 = .ok (.ireturn, 1) := by decide +kernel
theorem dL_best_0 : decode cL_best 0 = .ok (.aload 4, 2) := by decide +kernel
theorem dL_best_2 : decode cL_best 2 = .ok (.iconst 0, 1) := by decide +kernel
theorem dL_best_3 : decode cL_best 3 = .ok (.aload_n 0, 1) := by decide +kernel
theorem dL_best_4 : decode cL_best 4 = .ok (.iload_n 1, 1) := by decide +kernel
theorem dL_best_5 : decode cL_best 5 = .ok (.iload_n 2, 1) := by decide +kernel
theorem dL_best_6 : decode cL_best 6 = .ok (.iload_n 3, 1) := by decide +kernel
theorem dL_best_7 : decode cL_best 7 = .ok (.invokevirtual 15, 3) := by decide +kernel
theorem dL_best_10 : decode cL_best 10 = .ok (.i2l, 1) := by decide +kernel
theorem dL_best_11 : decode cL_best 11 = .ok (.lastore, 1) := by decide +kernel
theorem dL_best_12 : decode cL_best 12 = .ok (.goto 7, 3) := by decide +kernel
theorem dL_best_15 : decode cL_best 15 = .ok (.astore 5, 2) := by decide +kernel
theorem dL_best_17 : decode cL_best 17 = .ok (.iconst 1, 1) := by decide +kernel
theorem dL_best_18 : decode cL_best 18 = .ok (.ireturn, 1) := by decide +kernel
theorem dL_best_19 : decode cL_best 19 = .ok (.iconst 0, 1) := by decide +kernel
theorem dL_best_20 : decode cL_best 20 = .ok (.ireturn, 1) := by decide +kernel
theorem dL_lives_0 : decode cL_lives 0 = .ok (.aload 4, 2) := by decide +kernel
theorem dL_lives_2 : decode cL_lives 2 = .ok (.iconst 0, 1) := by decide +kernel
theorem dL_lives_3 : decode cL_lives 3 = .ok (.aload_n 0, 1) := by decide +kernel
theorem dL_lives_4 : decode cL_lives 4 = .ok (.iload_n 1, 1) := by decide +kernel
theorem dL_lives_5 : decode cL_lives 5 = .ok (.iload_n 2, 1) := by decide +kernel
theorem dL_lives_6 : decode cL_lives 6 = .ok (.iload_n 3, 1) := by decide +kernel
theorem dL_lives_7 : decode cL_lives 7 = .ok (.invokevirtual 23, 3) := by decide +kernel
theorem dL_lives_10 : decode cL_lives 10 = .ok (.i2l, 1) := by decide +kernel
theorem dL_lives_11 : decode cL_lives 11 = .ok (.lastore, 1) := by decide +kernel
theorem dL_lives_12 : decode cL_lives 12 = .ok (.goto 7, 3) := by decide +kernel
theorem dL_lives_15 : decode cL_lives 15 = .ok (.astore 5, 2) := by decide +kernel
theorem dL_lives_17 : decode cL_lives 17 = .ok (.iconst 1, 1) := by decide +kernel
theorem dL_lives_18 : decode cL_lives 18 = .ok (.ireturn, 1) := by decide +kernel
theorem dL_lives_19 : decode cL_lives 19 = .ok (.iconst 0, 1) := by decide +kernel
theorem dL_lives_20 : decode cL_lives 20 = .ok (.ireturn, 1) := by decide +kernel
theorem dL_rests_0 : decode cL_rests 0 = .ok (.aload 5, 2) := by decide +kernel
theorem dL_rests_2 : decode cL_rests 2 = .ok (.iconst 0, 1) := by decide +kernel
theorem dL_rests_3 : decode cL_rests 3 = .ok (.aload_n 0, 1) := by decide +kernel
theorem dL_rests_4 : decode cL_rests 4 = .ok (.iload_n 1, 1) := by decide +kernel
theorem dL_rests_5 : decode cL_rests 5 = .ok (.iload_n 2, 1) := by decide +kernel
theorem dL_rests_6 : decode cL_rests 6 = .ok (.iload_n 3, 1) := by decide +kernel
theorem dL_rests_7 : decode cL_rests 7 = .ok (.iload 4, 2) := by decide +kernel
theorem dL_rests_9 : decode cL_rests 9 = .ok (.invokevirtual 19, 3) := by decide +kernel
theorem dL_rests_12 : decode cL_rests 12 = .ok (.i2l, 1) := by decide +kernel
theorem dL_rests_13 : decode cL_rests 13 = .ok (.lastore, 1) := by decide +kernel
theorem dL_rests_14 : decode cL_rests 14 = .ok (.goto 7, 3) := by decide +kernel
theorem dL_rests_17 : decode cL_rests 17 = .ok (.astore 6, 2) := by decide +kernel
theorem dL_rests_19 : decode cL_rests 19 = .ok (.iconst 1, 1) := by decide +kernel
theorem dL_rests_20 : decode cL_rests 20 = .ok (.ireturn, 1) := by decide +kernel
theorem dL_rests_21 : decode cL_rests 21 = .ok (.iconst 0, 1) := by decide +kernel
theorem dL_rests_22 : decode cL_rests 22 = .ok (.ireturn, 1) := by decide +kernel
set_option maxHeartbeats 4000000 in
theorem h_judged (γ : kΓ) (l : Launch) (hl9 : l.stackTraces = false) {ax : List Nat} {wx : va_W} {x ou : Nat} {fo : Nat → Int64} (v0 : Int32) (hH : qH cD γ ax (fun _ _ => False) wx) (hx0 : ax[0]? = some x) : kMW γ l yL_judged cL_judged 4 (some .int) [(0, 9, 12, 13)] ({ frames := 8, cells := 1, slots := 6, locals := 201 } : Room) [.ref x, .int v0, .ref ou] (wx ++ [(ou, .inl (γ.2.1 1, 1, .inr (.inl fo)))]) (fun r w1 => ∃ (k : Int32) (wx1 : va_W) (fo1 : Nat → Int64), r = some (.int k) ∧ w1 = wx1 ++ [(ou, .inl (γ.2.1 1, 1, .inr (.inl fo1)))] ∧ qH cD γ ax (fun _ _ => False) wx1 ∧ qK cD cT_judged.2.2.2.2.2 wx wx1) := by
  refine k_ofWW (by decide) (Nat.le_of_ble_eq_true rfl) ?_
  intro p e s m below meth c A ls hC hr hlocks htab hw hl
  have hx := hC.1
  have hb := hC.2.1
  have hl : lv_has ls 4 [(0, .ref x), (1, .int v0), (2, .ref ou)] := hl
  obtain ⟨fs, hfs⟩ := c_recv hH hx0
  refine lv_aload_n hx hb dL_judged_0 rfl (lv_at hl 2 rfl) ?_
  refine lv_iconst (v := 0) hx hb dL_judged_1 (by decide) ?_
  refine lv_aload_n hx hb dL_judged_2 rfl (lv_at hl 0 rfl) ?_
  refine lv_iload_n hx hb dL_judged_3 rfl (lv_at hl 1 rfl) ?_
  refine l_VT 1 gw_1025 gw_1026 gw_1027 gw_1 gw_1028 hd_X11_judged hC hw (ct_judged γ l hl9 (av := [.ref x, .int v0]) ⟨hH, trivial, ⟨v_ref rfl hx0, v_int _, trivial⟩, fun f hf => (by cases hf), fun f hf => (by cases hf)⟩) ⟨by decide, by decide⟩ ⟨by decide, by decide⟩ hl.1 rfl hfs rfl rfl (Nat.le_of_ble_eq_true rfl) dL_judged_4 _ _ htab (by decide) (by decide) gw_1024 nw_1031 (fun r w1 H locs hq hw => ?_) (fun q9 w1 H locs hq hw => ?_)
  · obtain ⟨y9, rfl⟩ := l_ri rfl hq
    have hw : kW γ A ((ou, .inl (γ.2.1 1, 1, .inr (.inl fo))) :: w1) s H locs := hw
    refine W.eq (g2 := F0 m 7 ls [.int y9, .int 0, .ref ou]) rfl ?_
    refine W.widen (k := 1) (n := 6) (by decide) (by decide) ?_
    refine lv_i2l hx hb dL_judged_7 rfl ?_
    refine lv_topl (fun x9 ex9 => ?_)
    refine k_last hC hw 0 rfl (k_in0 (by decide)) dL_judged_8 (fun H locs hw => ?_)
    have hw : kW γ A ((ou, .inl (γ.2.1 1, 1, .inr (.inl (vp_updL fo (0 : Int32).toNatClampNeg x9)))) :: w1) s H locs := hw
    have hw := kW.perm hw (List.perm_append_comm (l₁ := [_]) (l₂ := w1))
    refine lv_goto (tgt := 15) hx hb dL_judged_9 (by decide) ?_
    refine lv_iconst (v := 0) hx hb dL_judged_15 (by decide) ?_
    exact k_iret hC hr hlocks hw (List.range _) (q_nd _) (q_all _) ⟨0, w1, _, rfl, rfl, hq.1, hq.2.2.1⟩ (by decide) (by decide) dL_judged_16
  · have hw : kW γ A ([(ou, .inl (γ.2.1 1, 1, .inr (.inl fo)))] ++ w1) s H locs := hw
    have hw := kW.perm hw (List.perm_append_comm (l₁ := [_]) (l₂ := w1))
    refine W.eq (g2 := F0 m 12 ls [.ref q9]) rfl ?_
    refine W.widen (k := 1) (n := 6) (by decide) (by decide) ?_
    refine lv_astore_n (lv' := [(3, .ref q9), (0, .ref x), (1, .int v0), (2, .ref ou)]) hx hb dL_judged_12 rfl hl (by decide) rfl (fun ls hl => ?_)
    refine lv_iconst (v := 1) hx hb dL_judged_13 (by decide) ?_
    exact k_iret hC hr hlocks hw (List.range _) (q_nd _) (q_all _) ⟨1, w1, _, rfl, rfl, hq.1, hq.2.2⟩ (by decide) (by decide) dL_judged_14
set_option maxHeartbeats 4000000 in
theorem h_best (γ : kΓ) (l : Launch) (hl9 : l.stackTraces = false) {ax : List Nat} {wx : va_W} {x ou : Nat} {fo : Nat → Int64} (v0 v1 v2 : Int32) (hH : qH cD γ ax (fun _ _ => False) wx) (hx0 : ax[0]? = some x) : kMW γ l yL_best cL_best 6 (some .int) [(0, 12, 15, 13)] ({ frames := 15, cells := 1, slots := 6, locals := 392 } : Room) [.ref x, .int v0, .int v1, .int v2, .ref ou] (wx ++ [(ou, .inl (γ.2.1 1, 1, .inr (.inl fo)))]) (fun r w1 => ∃ (k : Int32) (wx1 : va_W) (fo1 : Nat → Int64), r = some (.int k) ∧ w1 = wx1 ++ [(ou, .inl (γ.2.1 1, 1, .inr (.inl fo1)))] ∧ qH cD γ ax (fun _ _ => False) wx1 ∧ qK cD cT_best.2.2.2.2.2 wx wx1) := by
  refine k_ofWW (by decide) (Nat.le_of_ble_eq_true rfl) ?_
  intro p e s m below meth c A ls hC hr hlocks htab hw hl
  have hx := hC.1
  have hb := hC.2.1
  have hl : lv_has ls 6 [(0, .ref x), (1, .int v0), (2, .int v1), (3, .int v2), (4, .ref ou)] := hl
  obtain ⟨fs, hfs⟩ := c_recv hH hx0
  refine lv_aload hx hb dL_best_0 (lv_at hl 4 rfl) ?_
  refine lv_iconst (v := 0) hx hb dL_best_2 (by decide) ?_
  refine lv_aload_n hx hb dL_best_3 rfl (lv_at hl 0 rfl) ?_
  refine lv_iload_n hx hb dL_best_4 rfl (lv_at hl 1 rfl) ?_
  refine lv_iload_n hx hb dL_best_5 rfl (lv_at hl 2 rfl) ?_
  refine lv_iload_n hx hb dL_best_6 rfl (lv_at hl 3 rfl) ?_
  refine l_VT 3 gw_1097 gw_1098 gw_1099 gw_1 gw_1100 hd_X11_best hC hw (ct_best γ l hl9 (av := [.ref x, .int v0, .int v1, .int v2]) ⟨hH, trivial, ⟨v_ref rfl hx0, v_int _, v_int _, v_int _, trivial⟩, fun f hf => (by cases hf), fun f hf => (by cases hf)⟩) ⟨by decide, by decide⟩ ⟨by decide, by decide⟩ hl.1 rfl hfs rfl rfl (Nat.le_of_ble_eq_true rfl) dL_best_7 _ _ htab (by decide) (by decide) gw_1024 nw_1031 (fun r w1 H locs hq hw => ?_) (fun q9 w1 H locs hq hw => ?_)
  · obtain ⟨y9, rfl⟩ := l_ri rfl hq
    have hw : kW γ A ((ou, .inl (γ.2.1 1, 1, .inr (.inl fo))) :: w1) s H locs := hw
    refine W.eq (g2 := F0 m 10 ls [.int y9, .int 0, .ref ou]) rfl ?_
    refine W.widen (k := 1) (n := 6) (by decide) (by decide) ?_
    refine lv_i2l hx hb dL_best_10 rfl ?_
    refine lv_topl (fun x9 ex9 => ?_)
    refine k_last hC hw 0 rfl (k_in0 (by decide)) dL_best_11 (fun H locs hw => ?_)
    have hw : kW γ A ((ou, .inl (γ.2.1 1, 1, .inr (.inl (vp_updL fo (0 : Int32).toNatClampNeg x9)))) :: w1) s H locs := hw
    have hw := kW.perm hw (List.perm_append_comm (l₁ := [_]) (l₂ := w1))
    refine lv_goto (tgt := 19) hx hb dL_best_12 (by decide) ?_
    refine lv_iconst (v := 0) hx hb dL_best_19 (by decide) ?_
    exact k_iret hC hr hlocks hw (List.range _) (q_nd _) (q_all _) ⟨0, w1, _, rfl, rfl, hq.1, hq.2.2.1⟩ (by decide) (by decide) dL_best_20
  · have hw : kW γ A ([(ou, .inl (γ.2.1 1, 1, .inr (.inl fo)))] ++ w1) s H locs := hw
    have hw := kW.perm hw (List.perm_append_comm (l₁ := [_]) (l₂ := w1))
    refine W.eq (g2 := F0 m 15 ls [.ref q9]) rfl ?_
    refine W.widen (k := 1) (n := 6) (by decide) (by decide) ?_
    refine lv_astore (lv' := [(5, .ref q9), (0, .ref x), (1, .int v0), (2, .int v1), (3, .int v2), (4, .ref ou)]) hx hb dL_best_15 hl (by decide) rfl (fun ls hl => ?_)
    refine lv_iconst (v := 1) hx hb dL_best_17 (by decide) ?_
    exact k_iret hC hr hlocks hw (List.range _) (q_nd _) (q_all _) ⟨1, w1, _, rfl, rfl, hq.1, hq.2.2⟩ (by decide) (by decide) dL_best_18
set_option maxHeartbeats 4000000 in
theorem h_lives (γ : kΓ) (l : Launch) (hl9 : l.stackTraces = false) {ax : List Nat} {wx : va_W} {x ou : Nat} {fo : Nat → Int64} (v0 v1 v2 : Int32) (hH : qH cD γ ax (fun _ _ => False) wx) (hx0 : ax[0]? = some x) : kMW γ l yL_lives cL_lives 6 (some .int) [(0, 12, 15, 13)] ({ frames := 7, cells := 1, slots := 6, locals := 178 } : Room) [.ref x, .int v0, .int v1, .int v2, .ref ou] (wx ++ [(ou, .inl (γ.2.1 1, 1, .inr (.inl fo)))]) (fun r w1 => ∃ (k : Int32) (wx1 : va_W) (fo1 : Nat → Int64), r = some (.int k) ∧ w1 = wx1 ++ [(ou, .inl (γ.2.1 1, 1, .inr (.inl fo1)))] ∧ qH cD γ ax (fun _ _ => False) wx1 ∧ qK cD cT_lives.2.2.2.2.2 wx wx1) := by
  refine k_ofWW (by decide) (Nat.le_of_ble_eq_true rfl) ?_
  intro p e s m below meth c A ls hC hr hlocks htab hw hl
  have hx := hC.1
  have hb := hC.2.1
  have hl : lv_has ls 6 [(0, .ref x), (1, .int v0), (2, .int v1), (3, .int v2), (4, .ref ou)] := hl
  obtain ⟨fs, hfs⟩ := c_recv hH hx0
  refine lv_aload hx hb dL_lives_0 (lv_at hl 4 rfl) ?_
  refine lv_iconst (v := 0) hx hb dL_lives_2 (by decide) ?_
  refine lv_aload_n hx hb dL_lives_3 rfl (lv_at hl 0 rfl) ?_
  refine lv_iload_n hx hb dL_lives_4 rfl (lv_at hl 1 rfl) ?_
  refine lv_iload_n hx hb dL_lives_5 rfl (lv_at hl 2 rfl) ?_
  refine lv_iload_n hx hb dL_lives_6 rfl (lv_at hl 3 rfl) ?_
  refine l_VT 3 gw_1165 gw_1166 gw_1167 gw_1 gw_1168 hd_X11_lives hC hw (ct_lives γ l hl9 (av := [.ref x, .int v0, .int v1, .int v2]) ⟨hH, trivial, ⟨v_ref rfl hx0, v_int _, v_int _, v_int _, trivial⟩, fun f hf => (by cases hf), fun f hf => (by cases hf)⟩) ⟨by decide, by decide⟩ ⟨by decide, by decide⟩ hl.1 rfl hfs rfl rfl (Nat.le_of_ble_eq_true rfl) dL_lives_7 _ _ htab (by decide) (by decide) gw_1024 nw_1031 (fun r w1 H locs hq hw => ?_) (fun q9 w1 H locs hq hw => ?_)
  · obtain ⟨y9, rfl⟩ := l_ri rfl hq
    have hw : kW γ A ((ou, .inl (γ.2.1 1, 1, .inr (.inl fo))) :: w1) s H locs := hw
    refine W.eq (g2 := F0 m 10 ls [.int y9, .int 0, .ref ou]) rfl ?_
    refine W.widen (k := 1) (n := 6) (by decide) (by decide) ?_
    refine lv_i2l hx hb dL_lives_10 rfl ?_
    refine lv_topl (fun x9 ex9 => ?_)
    refine k_last hC hw 0 rfl (k_in0 (by decide)) dL_lives_11 (fun H locs hw => ?_)
    have hw : kW γ A ((ou, .inl (γ.2.1 1, 1, .inr (.inl (vp_updL fo (0 : Int32).toNatClampNeg x9)))) :: w1) s H locs := hw
    have hw := kW.perm hw (List.perm_append_comm (l₁ := [_]) (l₂ := w1))
    refine lv_goto (tgt := 19) hx hb dL_lives_12 (by decide) ?_
    refine lv_iconst (v := 0) hx hb dL_lives_19 (by decide) ?_
    exact k_iret hC hr hlocks hw (List.range _) (q_nd _) (q_all _) ⟨0, w1, _, rfl, rfl, hq.1, hq.2.2.1⟩ (by decide) (by decide) dL_lives_20
  · have hw : kW γ A ([(ou, .inl (γ.2.1 1, 1, .inr (.inl fo)))] ++ w1) s H locs := hw
    have hw := kW.perm hw (List.perm_append_comm (l₁ := [_]) (l₂ := w1))
    refine W.eq (g2 := F0 m 15 ls [.ref q9]) rfl ?_
    refine W.widen (k := 1) (n := 6) (by decide) (by decide) ?_
    refine lv_astore (lv' := [(5, .ref q9), (0, .ref x), (1, .int v0), (2, .int v1), (3, .int v2), (4, .ref ou)]) hx hb dL_lives_15 hl (by decide) rfl (fun ls hl => ?_)
    refine lv_iconst (v := 1) hx hb dL_lives_17 (by decide) ?_
    exact k_iret hC hr hlocks hw (List.range _) (q_nd _) (q_all _) ⟨1, w1, _, rfl, rfl, hq.1, hq.2.2⟩ (by decide) (by decide) dL_lives_18
set_option maxHeartbeats 4000000 in
theorem h_rests (γ : kΓ) (l : Launch) (hl9 : l.stackTraces = false) {ax : List Nat} {wx : va_W} {x ou : Nat} {fo : Nat → Int64} (v0 v1 v2 v3 : Int32) (hH : qH cD γ ax (fun _ _ => False) wx) (hx0 : ax[0]? = some x) : kMW γ l yL_rests cL_rests 7 (some .int) [(0, 14, 17, 13)] ({ frames := 7, cells := 1, slots := 6, locals := 109 } : Room) [.ref x, .int v0, .int v1, .int v2, .int v3, .ref ou] (wx ++ [(ou, .inl (γ.2.1 1, 1, .inr (.inl fo)))]) (fun r w1 => ∃ (k : Int32) (wx1 : va_W) (fo1 : Nat → Int64), r = some (.int k) ∧ w1 = wx1 ++ [(ou, .inl (γ.2.1 1, 1, .inr (.inl fo1)))] ∧ qH cD γ ax (fun _ _ => False) wx1 ∧ qK cD cT_rests.2.2.2.2.2 wx wx1) := by
  refine k_ofWW (by decide) (Nat.le_of_ble_eq_true rfl) ?_
  intro p e s m below meth c A ls hC hr hlocks htab hw hl
  have hx := hC.1
  have hb := hC.2.1
  have hl : lv_has ls 7 [(0, .ref x), (1, .int v0), (2, .int v1), (3, .int v2), (4, .int v3), (5, .ref ou)] := hl
  obtain ⟨fs, hfs⟩ := c_recv hH hx0
  refine lv_aload hx hb dL_rests_0 (lv_at hl 5 rfl) ?_
  refine lv_iconst (v := 0) hx hb dL_rests_2 (by decide) ?_
  refine lv_aload_n hx hb dL_rests_3 rfl (lv_at hl 0 rfl) ?_
  refine lv_iload_n hx hb dL_rests_4 rfl (lv_at hl 1 rfl) ?_
  refine lv_iload_n hx hb dL_rests_5 rfl (lv_at hl 2 rfl) ?_
  refine lv_iload_n hx hb dL_rests_6 rfl (lv_at hl 3 rfl) ?_
  refine lv_iload hx hb dL_rests_7 (lv_at hl 4 rfl) ?_
  refine l_VT 4 gw_1149 gw_1150 gw_1151 gw_1 gw_1152 hd_X11_rests hC hw (ct_rests γ l hl9 (av := [.ref x, .int v0, .int v1, .int v2, .int v3]) ⟨hH, trivial, ⟨v_ref rfl hx0, v_int _, v_int _, v_int _, v_int _, trivial⟩, fun f hf => (by cases hf), fun f hf => (by cases hf)⟩) ⟨by decide, by decide⟩ ⟨by decide, by decide⟩ hl.1 rfl hfs rfl rfl (Nat.le_of_ble_eq_true rfl) dL_rests_9 _ _ htab (by decide) (by decide) gw_1024 nw_1031 (fun r w1 H locs hq hw => ?_) (fun q9 w1 H locs hq hw => ?_)
  · obtain ⟨y9, rfl⟩ := l_ri rfl hq
    have hw : kW γ A ((ou, .inl (γ.2.1 1, 1, .inr (.inl fo))) :: w1) s H locs := hw
    refine W.eq (g2 := F0 m 12 ls [.int y9, .int 0, .ref ou]) rfl ?_
    refine W.widen (k := 1) (n := 6) (by decide) (by decide) ?_
    refine lv_i2l hx hb dL_rests_12 rfl ?_
    refine lv_topl (fun x9 ex9 => ?_)
    refine k_last hC hw 0 rfl (k_in0 (by decide)) dL_rests_13 (fun H locs hw => ?_)
    have hw : kW γ A ((ou, .inl (γ.2.1 1, 1, .inr (.inl (vp_updL fo (0 : Int32).toNatClampNeg x9)))) :: w1) s H locs := hw
    have hw := kW.perm hw (List.perm_append_comm (l₁ := [_]) (l₂ := w1))
    refine lv_goto (tgt := 21) hx hb dL_rests_14 (by decide) ?_
    refine lv_iconst (v := 0) hx hb dL_rests_21 (by decide) ?_
    exact k_iret hC hr hlocks hw (List.range _) (q_nd _) (q_all _) ⟨0, w1, _, rfl, rfl, hq.1, hq.2.2.1⟩ (by decide) (by decide) dL_rests_22
  · have hw : kW γ A ([(ou, .inl (γ.2.1 1, 1, .inr (.inl fo)))] ++ w1) s H locs := hw
    have hw := kW.perm hw (List.perm_append_comm (l₁ := [_]) (l₂ := w1))
    refine W.eq (g2 := F0 m 17 ls [.ref q9]) rfl ?_
    refine W.widen (k := 1) (n := 6) (by decide) (by decide) ?_
    refine lv_astore (lv' := [(6, .ref q9), (0, .ref x), (1, .int v0), (2, .int v1), (3, .int v2), (4, .int v3), (5, .ref ou)]) hx hb dL_rests_17 hl (by decide) rfl (fun ls hl => ?_)
    refine lv_iconst (v := 1) hx hb dL_rests_19 (by decide) ?_
    exact k_iret hC hr hlocks hw (List.range _) (q_nd _) (q_all _) ⟨1, w1, _, rfl, rfl, hq.1, hq.2.2⟩ (by decide) (by decide) dL_rests_20

theorem ta_0 {was : Nat} (h : was < 12) : (tCs 0 was).all tf_0 = true := by
  have : was = 0 ∨ was = 1 ∨ was = 2 ∨ was = 3 ∨ was = 4 ∨ was = 5 ∨ was = 6 ∨ was = 7 ∨ was = 8 ∨ was = 9 ∨ was = 10 ∨ was = 11 := by omega
  rcases this with rfl | rfl | rfl | rfl | rfl | rfl | rfl | rfl | rfl | rfl | rfl | rfl
  · exact t_0_0
  · exact t_0_1
  · exact t_0_2
  · exact t_0_3
  · exact t_0_4
  · exact t_0_5
  · exact t_0_6
  · exact t_0_7
  · exact t_0_8
  · exact t_0_9
  · exact t_0_10
  · exact t_0_11
theorem tg_0 : qsegs mD tn_0.2.2.2.2.2 mXr mtb_RX12 mMT tB_0 tn_0.1.2.1 tn_0.1.2.2 6 1 tn_0 [(3, 0, 0), (1, 0, 0)] [] pg_X12_turnsBack [] [(12, 3), (113, 4)] 0 [] (tCw 0) 3000 = true := by
  show (tCw 0).all tf_0 = true
  rw [List.all_eq_true]
  intro k hk
  obtain ⟨was, h1, h2⟩ := List.mem_flatMap.mp hk
  have h3 := ta_0 (List.mem_range.mp h1)
  rw [List.all_eq_true] at h3
  exact h3 k h2
theorem tk_0 : qchk mD mXr mtb_RX12 mMT tB_0 6 1 tn_0 pg_X12_turnsBack [] [(12, 3), (113, 4)] (tCw 0) 3000 = true := q_chkE (z := (([], [], []), ([], [], []), [(3, 0, 0), (1, 0, 0)])) (w := (([], [], []), ([], [], []), [])) (N := ([], [], [])) rfl rfl rfl (by decide +kernel) tg_0
theorem ts_0 (γ : kΓ) (l : Launch) : qSem γ l mD mX mMT tn_0 := q_sem (xr := mXr) (tb := mtb_RX12) (B := tB_0) (rk := 1) (T := pg_X12_turnsBack) (sps := [(12, 3), (113, 4)]) (cuts := tCw 0) (fu := 3000) (y := (yX12_turnsBack, cX12_turnsBack, 6, (some FieldType.int))) mDok rfl (by decide) (.inr (.inl ⟨rfl, rfl⟩)) (m_xok) mtk_RX12 (q_f1 (m_up rfl (ms_74 γ l)) (q_f1 (m_up rfl (ms_88 γ l)) (q_f1 (ms_92 γ l) (q_f1 (m_up rfl (ms_118 γ l)) (q_f1 (m_up rfl (ms_206 γ l)) (q_f1 (m_up rfl (ms_207 γ l)) (q_f1 (m_up rfl (ms_208 γ l)) (q_f1 (m_up rfl (ms_209 γ l)) (q_f1 (m_up rfl (ms_210 γ l)) (q_f1 (m_up rfl (ms_211 γ l)) (q_f1 (m_up rfl (ms_212 γ l)) (q_f1 (m_up rfl (ms_213 γ l)) (q_f1 (m_up rfl (ms_214 γ l)) (q_f1 (m_up rfl (ms_215 γ l)) (q_f1 (m_up rfl (ms_216 γ l)) (q_f1 (m_up rfl (ms_217 γ l)) q_f0)))))))))))))))) pk_X12_turnsBack tk_0
theorem ta_1 {was : Nat} (h : was < 12) : (tCs 1 was).all tf_1 = true := by
  have : was = 0 ∨ was = 1 ∨ was = 2 ∨ was = 3 ∨ was = 4 ∨ was = 5 ∨ was = 6 ∨ was = 7 ∨ was = 8 ∨ was = 9 ∨ was = 10 ∨ was = 11 := by omega
  rcases this with rfl | rfl | rfl | rfl | rfl | rfl | rfl | rfl | rfl | rfl | rfl | rfl
  · exact t_1_0
  · exact t_1_1
  · exact t_1_2
  · exact t_1_3
  · exact t_1_4
  · exact t_1_5
  · exact t_1_6
  · exact t_1_7
  · exact t_1_8
  · exact t_1_9
  · exact t_1_10
  · exact t_1_11
theorem tg_1 : qsegs mD tn_1.2.2.2.2.2 mXr mtb_RX12 mMT tB_1 tn_1.1.2.1 tn_1.1.2.2 6 1 tn_1 [(3, 0, 0), (1, 0, 1)] [] pg_X12_turnsBack [] [(12, 3), (113, 4)] 0 [] (tCw 1) 3000 = true := by
  show (tCw 1).all tf_1 = true
  rw [List.all_eq_true]
  intro k hk
  obtain ⟨was, h1, h2⟩ := List.mem_flatMap.mp hk
  have h3 := ta_1 (List.mem_range.mp h1)
  rw [List.all_eq_true] at h3
  exact h3 k h2
theorem tk_1 : qchk mD mXr mtb_RX12 mMT tB_1 6 1 tn_1 pg_X12_turnsBack [] [(12, 3), (113, 4)] (tCw 1) 3000 = true := q_chkE (z := (([], [], []), ([], [], []), [(3, 0, 0), (1, 0, 1)])) (w := (([], [], []), ([], [], []), [])) (N := ([], [], [])) rfl rfl rfl (by decide +kernel) tg_1
theorem ts_1 (γ : kΓ) (l : Launch) : qSem γ l mD mX mMT tn_1 := q_sem (xr := mXr) (tb := mtb_RX12) (B := tB_1) (rk := 1) (T := pg_X12_turnsBack) (sps := [(12, 3), (113, 4)]) (cuts := tCw 1) (fu := 3000) (y := (yX12_turnsBack, cX12_turnsBack, 6, (some FieldType.int))) mDok rfl (by decide) (.inr (.inl ⟨rfl, rfl⟩)) (m_xok) mtk_RX12 (q_f1 (m_up rfl (ms_75 γ l)) (q_f1 (m_up rfl (ms_88 γ l)) (q_f1 (ms_92 γ l) (q_f1 (m_up rfl (ms_132 γ l)) (q_f1 (m_up rfl (ms_206 γ l)) (q_f1 (m_up rfl (ms_207 γ l)) (q_f1 (m_up rfl (ms_208 γ l)) (q_f1 (m_up rfl (ms_209 γ l)) (q_f1 (m_up rfl (ms_210 γ l)) (q_f1 (m_up rfl (ms_211 γ l)) (q_f1 (m_up rfl (ms_212 γ l)) (q_f1 (m_up rfl (ms_213 γ l)) (q_f1 (m_up rfl (ms_214 γ l)) (q_f1 (m_up rfl (ms_215 γ l)) (q_f1 (m_up rfl (ms_216 γ l)) (q_f1 (m_up rfl (ms_217 γ l)) q_f0)))))))))))))))) pk_X12_turnsBack tk_1
theorem ta_2 {was : Nat} (h : was < 12) : (tCs 2 was).all tf_2 = true := by
  have : was = 0 ∨ was = 1 ∨ was = 2 ∨ was = 3 ∨ was = 4 ∨ was = 5 ∨ was = 6 ∨ was = 7 ∨ was = 8 ∨ was = 9 ∨ was = 10 ∨ was = 11 := by omega
  rcases this with rfl | rfl | rfl | rfl | rfl | rfl | rfl | rfl | rfl | rfl | rfl | rfl
  · exact t_2_0
  · exact t_2_1
  · exact t_2_2
  · exact t_2_3
  · exact t_2_4
  · exact t_2_5
  · exact t_2_6
  · exact t_2_7
  · exact t_2_8
  · exact t_2_9
  · exact t_2_10
  · exact t_2_11
theorem tg_2 : qsegs mD tn_2.2.2.2.2.2 mXr mtb_RX12 mMT tB_2 tn_2.1.2.1 tn_2.1.2.2 6 1 tn_2 [(3, 0, 0), (1, 0, 2)] [] pg_X12_turnsBack [] [(12, 3), (113, 4)] 0 [] (tCw 2) 3000 = true := by
  show (tCw 2).all tf_2 = true
  rw [List.all_eq_true]
  intro k hk
  obtain ⟨was, h1, h2⟩ := List.mem_flatMap.mp hk
  have h3 := ta_2 (List.mem_range.mp h1)
  rw [List.all_eq_true] at h3
  exact h3 k h2
theorem tk_2 : qchk mD mXr mtb_RX12 mMT tB_2 6 1 tn_2 pg_X12_turnsBack [] [(12, 3), (113, 4)] (tCw 2) 3000 = true := q_chkE (z := (([], [], []), ([], [], []), [(3, 0, 0), (1, 0, 2)])) (w := (([], [], []), ([], [], []), [])) (N := ([], [], [])) rfl rfl rfl (by decide +kernel) tg_2
theorem ts_2 (γ : kΓ) (l : Launch) : qSem γ l mD mX mMT tn_2 := q_sem (xr := mXr) (tb := mtb_RX12) (B := tB_2) (rk := 1) (T := pg_X12_turnsBack) (sps := [(12, 3), (113, 4)]) (cuts := tCw 2) (fu := 3000) (y := (yX12_turnsBack, cX12_turnsBack, 6, (some FieldType.int))) mDok rfl (by decide) (.inr (.inl ⟨rfl, rfl⟩)) (m_xok) mtk_RX12 (q_f1 (m_up rfl (ms_76 γ l)) (q_f1 (m_up rfl (ms_88 γ l)) (q_f1 (ms_92 γ l) (q_f1 (m_up rfl (ms_146 γ l)) (q_f1 (m_up rfl (ms_206 γ l)) (q_f1 (m_up rfl (ms_207 γ l)) (q_f1 (m_up rfl (ms_208 γ l)) (q_f1 (m_up rfl (ms_209 γ l)) (q_f1 (m_up rfl (ms_210 γ l)) (q_f1 (m_up rfl (ms_211 γ l)) (q_f1 (m_up rfl (ms_212 γ l)) (q_f1 (m_up rfl (ms_213 γ l)) (q_f1 (m_up rfl (ms_214 γ l)) (q_f1 (m_up rfl (ms_215 γ l)) (q_f1 (m_up rfl (ms_216 γ l)) (q_f1 (m_up rfl (ms_217 γ l)) q_f0)))))))))))))))) pk_X12_turnsBack tk_2
theorem ta_3 {was : Nat} (h : was < 12) : (tCs 3 was).all tf_3 = true := by
  have : was = 0 ∨ was = 1 ∨ was = 2 ∨ was = 3 ∨ was = 4 ∨ was = 5 ∨ was = 6 ∨ was = 7 ∨ was = 8 ∨ was = 9 ∨ was = 10 ∨ was = 11 := by omega
  rcases this with rfl | rfl | rfl | rfl | rfl | rfl | rfl | rfl | rfl | rfl | rfl | rfl
  · exact t_3_0
  · exact t_3_1
  · exact t_3_2
  · exact t_3_3
  · exact t_3_4
  · exact t_3_5
  · exact t_3_6
  · exact t_3_7
  · exact t_3_8
  · exact t_3_9
  · exact t_3_10
  · exact t_3_11
theorem tg_3 : qsegs mD tn_3.2.2.2.2.2 mXr mtb_RX12 mMT tB_3 tn_3.1.2.1 tn_3.1.2.2 6 1 tn_3 [(3, 0, 0), (1, 0, 3)] [] pg_X12_turnsBack [] [(12, 3), (113, 4)] 0 [] (tCw 3) 3000 = true := by
  show (tCw 3).all tf_3 = true
  rw [List.all_eq_true]
  intro k hk
  obtain ⟨was, h1, h2⟩ := List.mem_flatMap.mp hk
  have h3 := ta_3 (List.mem_range.mp h1)
  rw [List.all_eq_true] at h3
  exact h3 k h2
theorem tk_3 : qchk mD mXr mtb_RX12 mMT tB_3 6 1 tn_3 pg_X12_turnsBack [] [(12, 3), (113, 4)] (tCw 3) 3000 = true := q_chkE (z := (([], [], []), ([], [], []), [(3, 0, 0), (1, 0, 3)])) (w := (([], [], []), ([], [], []), [])) (N := ([], [], [])) rfl rfl rfl (by decide +kernel) tg_3
theorem ts_3 (γ : kΓ) (l : Launch) : qSem γ l mD mX mMT tn_3 := q_sem (xr := mXr) (tb := mtb_RX12) (B := tB_3) (rk := 1) (T := pg_X12_turnsBack) (sps := [(12, 3), (113, 4)]) (cuts := tCw 3) (fu := 3000) (y := (yX12_turnsBack, cX12_turnsBack, 6, (some FieldType.int))) mDok rfl (by decide) (.inr (.inl ⟨rfl, rfl⟩)) (m_xok) mtk_RX12 (q_f1 (m_up rfl (ms_77 γ l)) (q_f1 (m_up rfl (ms_88 γ l)) (q_f1 (ms_92 γ l) (q_f1 (m_up rfl (ms_160 γ l)) (q_f1 (m_up rfl (ms_206 γ l)) (q_f1 (m_up rfl (ms_207 γ l)) (q_f1 (m_up rfl (ms_208 γ l)) (q_f1 (m_up rfl (ms_209 γ l)) (q_f1 (m_up rfl (ms_210 γ l)) (q_f1 (m_up rfl (ms_211 γ l)) (q_f1 (m_up rfl (ms_212 γ l)) (q_f1 (m_up rfl (ms_213 γ l)) (q_f1 (m_up rfl (ms_214 γ l)) (q_f1 (m_up rfl (ms_215 γ l)) (q_f1 (m_up rfl (ms_216 γ l)) (q_f1 (m_up rfl (ms_217 γ l)) q_f0)))))))))))))))) pk_X12_turnsBack tk_3
theorem ta_4 {was : Nat} (h : was < 12) : (tCs 4 was).all tf_4 = true := by
  have : was = 0 ∨ was = 1 ∨ was = 2 ∨ was = 3 ∨ was = 4 ∨ was = 5 ∨ was = 6 ∨ was = 7 ∨ was = 8 ∨ was = 9 ∨ was = 10 ∨ was = 11 := by omega
  rcases this with rfl | rfl | rfl | rfl | rfl | rfl | rfl | rfl | rfl | rfl | rfl | rfl
  · exact t_4_0
  · exact t_4_1
  · exact t_4_2
  · exact t_4_3
  · exact t_4_4
  · exact t_4_5
  · exact t_4_6
  · exact t_4_7
  · exact t_4_8
  · exact t_4_9
  · exact t_4_10
  · exact t_4_11
theorem tg_4 : qsegs mD tn_4.2.2.2.2.2 mXr mtb_RX12 mMT tB_4 tn_4.1.2.1 tn_4.1.2.2 6 1 tn_4 [(3, 0, 0), (1, 0, 4)] [] pg_X12_turnsBack [] [(12, 3), (113, 4)] 0 [] (tCw 4) 3000 = true := by
  show (tCw 4).all tf_4 = true
  rw [List.all_eq_true]
  intro k hk
  obtain ⟨was, h1, h2⟩ := List.mem_flatMap.mp hk
  have h3 := ta_4 (List.mem_range.mp h1)
  rw [List.all_eq_true] at h3
  exact h3 k h2
theorem tk_4 : qchk mD mXr mtb_RX12 mMT tB_4 6 1 tn_4 pg_X12_turnsBack [] [(12, 3), (113, 4)] (tCw 4) 3000 = true := q_chkE (z := (([], [], []), ([], [], []), [(3, 0, 0), (1, 0, 4)])) (w := (([], [], []), ([], [], []), [])) (N := ([], [], [])) rfl rfl rfl (by decide +kernel) tg_4
theorem ts_4 (γ : kΓ) (l : Launch) : qSem γ l mD mX mMT tn_4 := q_sem (xr := mXr) (tb := mtb_RX12) (B := tB_4) (rk := 1) (T := pg_X12_turnsBack) (sps := [(12, 3), (113, 4)]) (cuts := tCw 4) (fu := 3000) (y := (yX12_turnsBack, cX12_turnsBack, 6, (some FieldType.int))) mDok rfl (by decide) (.inr (.inl ⟨rfl, rfl⟩)) (m_xok) mtk_RX12 (q_f1 (m_up rfl (ms_78 γ l)) (q_f1 (m_up rfl (ms_88 γ l)) (q_f1 (ms_92 γ l) (q_f1 (m_up rfl (ms_174 γ l)) (q_f1 (m_up rfl (ms_206 γ l)) (q_f1 (m_up rfl (ms_207 γ l)) (q_f1 (m_up rfl (ms_208 γ l)) (q_f1 (m_up rfl (ms_209 γ l)) (q_f1 (m_up rfl (ms_210 γ l)) (q_f1 (m_up rfl (ms_211 γ l)) (q_f1 (m_up rfl (ms_212 γ l)) (q_f1 (m_up rfl (ms_213 γ l)) (q_f1 (m_up rfl (ms_214 γ l)) (q_f1 (m_up rfl (ms_215 γ l)) (q_f1 (m_up rfl (ms_216 γ l)) (q_f1 (m_up rfl (ms_217 γ l)) q_f0)))))))))))))))) pk_X12_turnsBack tk_4
theorem mx_294 (γ : kΓ) (l : Launch) : qSem γ l mD mX mMT mn_294 := by
  refine ⟨_, rfl, fun adr ws av hp => ?_⟩
  match av, hp.2.2.1 with
  | [v0, v], ⟨hv0, hv, _⟩ =>
    obtain ⟨x, rfl, hx⟩ := hv.1 rfl
    have hx : 0 ≤ x.toInt ∧ x.toInt ≤ 4 := hx
    by_cases h0 : 0 ≤ x.toInt ∧ x.toInt ≤ 0
    · obtain ⟨y, hy, hs⟩ := ts_0 γ l
      cases hy
      refine k_imp (hs adr ws [v0, .int x] ⟨hp.1, hp.2.1, ⟨hv0, ⟨fun _ => ⟨x, rfl, h0⟩, fun h => (by cases h), fun h => (by cases h)⟩, trivial⟩, fun f hf => (by cases hf), fun f hf => (by cases hf)⟩) (fun r w1 hq => ?_)
      obtain ⟨q1, q2, q3, t, t1, t2⟩ := hq
      have t1 := List.mem_singleton.mp t1
      subst t1
      exact ⟨q1, q2, fun q g a c a1 c1 hg h0 h1 k hk => q3 q g a c a1 c1 hg h0 h1 k (q_cov (by decide) hk), _, List.mem_cons_self, t2.1, fun f hf => (by cases hf), fun f hf => (by cases hf), fun f hf => (by cases hf), fun q hq => (by cases hq)⟩
    by_cases h1 : 1 ≤ x.toInt ∧ x.toInt ≤ 1
    · obtain ⟨y, hy, hs⟩ := ts_1 γ l
      cases hy
      refine k_imp (hs adr ws [v0, .int x] ⟨hp.1, hp.2.1, ⟨hv0, ⟨fun _ => ⟨x, rfl, h1⟩, fun h => (by cases h), fun h => (by cases h)⟩, trivial⟩, fun f hf => (by cases hf), fun f hf => (by cases hf)⟩) (fun r w1 hq => ?_)
      obtain ⟨q1, q2, q3, t, t1, t2⟩ := hq
      have t1 := List.mem_singleton.mp t1
      subst t1
      exact ⟨q1, q2, fun q g a c a1 c1 hg h0 h1 k hk => q3 q g a c a1 c1 hg h0 h1 k (q_cov (by decide) hk), _, List.mem_cons_self, t2.1, fun f hf => (by cases hf), fun f hf => (by cases hf), fun f hf => (by cases hf), fun q hq => (by cases hq)⟩
    by_cases h2 : 2 ≤ x.toInt ∧ x.toInt ≤ 2
    · obtain ⟨y, hy, hs⟩ := ts_2 γ l
      cases hy
      refine k_imp (hs adr ws [v0, .int x] ⟨hp.1, hp.2.1, ⟨hv0, ⟨fun _ => ⟨x, rfl, h2⟩, fun h => (by cases h), fun h => (by cases h)⟩, trivial⟩, fun f hf => (by cases hf), fun f hf => (by cases hf)⟩) (fun r w1 hq => ?_)
      obtain ⟨q1, q2, q3, t, t1, t2⟩ := hq
      have t1 := List.mem_singleton.mp t1
      subst t1
      exact ⟨q1, q2, fun q g a c a1 c1 hg h0 h1 k hk => q3 q g a c a1 c1 hg h0 h1 k (q_cov (by decide) hk), _, List.mem_cons_self, t2.1, fun f hf => (by cases hf), fun f hf => (by cases hf), fun f hf => (by cases hf), fun q hq => (by cases hq)⟩
    by_cases h3 : 3 ≤ x.toInt ∧ x.toInt ≤ 3
    · obtain ⟨y, hy, hs⟩ := ts_3 γ l
      cases hy
      refine k_imp (hs adr ws [v0, .int x] ⟨hp.1, hp.2.1, ⟨hv0, ⟨fun _ => ⟨x, rfl, h3⟩, fun h => (by cases h), fun h => (by cases h)⟩, trivial⟩, fun f hf => (by cases hf), fun f hf => (by cases hf)⟩) (fun r w1 hq => ?_)
      obtain ⟨q1, q2, q3, t, t1, t2⟩ := hq
      have t1 := List.mem_singleton.mp t1
      subst t1
      exact ⟨q1, q2, fun q g a c a1 c1 hg h0 h1 k hk => q3 q g a c a1 c1 hg h0 h1 k (q_cov (by decide) hk), _, List.mem_cons_self, t2.1, fun f hf => (by cases hf), fun f hf => (by cases hf), fun f hf => (by cases hf), fun q hq => (by cases hq)⟩
    by_cases h4 : 4 ≤ x.toInt ∧ x.toInt ≤ 4
    · obtain ⟨y, hy, hs⟩ := ts_4 γ l
      cases hy
      refine k_imp (hs adr ws [v0, .int x] ⟨hp.1, hp.2.1, ⟨hv0, ⟨fun _ => ⟨x, rfl, h4⟩, fun h => (by cases h), fun h => (by cases h)⟩, trivial⟩, fun f hf => (by cases hf), fun f hf => (by cases hf)⟩) (fun r w1 hq => ?_)
      obtain ⟨q1, q2, q3, t, t1, t2⟩ := hq
      have t1 := List.mem_singleton.mp t1
      subst t1
      exact ⟨q1, q2, fun q g a c a1 c1 hg h0 h1 k hk => q3 q g a c a1 c1 hg h0 h1 k (q_cov (by decide) hk), _, List.mem_cons_self, t2.1, fun f hf => (by cases hf), fun f hf => (by cases hf), fun f hf => (by cases hf), fun q hq => (by cases hq)⟩
    exfalso; omega

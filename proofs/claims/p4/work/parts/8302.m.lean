/-- (X12_within, (0, 9999), (0, 0), (6, 6)) -/
theorem ms_50 (γ : kΓ) (l : Launch) : qSem γ l mD (fun _ => True) mMT mn_50 := q_sem (xr := []) (tb := mtb_RX12) (B := []) (rk := 2) (T := pg_X12_within) (sps := []) (cuts := []) (fu := 3000) (y := (yX12_within, cX12_within, 3, (some FieldType.boolean))) mDok rfl (by decide) (.inr (.inr (.inl ⟨rfl, rfl⟩))) (fun _ _ _ _ _ _ _ _ _ _ _ => trivial) mtk_RX12 q_f0 pk_X12_within (by decide +kernel)
/-- (X12_needsNumber, 0, nz, (0, 0), (6, 6)) -/
theorem ms_51 (γ : kΓ) (l : Launch) : qSem γ l mD (fun _ => True) mMT mn_51 := q_sem (xr := []) (tb := mtb_RX12) (B := [mn_11, mn_13, mn_50]) (rk := 2) (T := pg_X12_needsNumber) (sps := []) (cuts := []) (fu := 3000) (y := (yX12_needsNumber, cX12_needsNumber, 3, (some FieldType.boolean))) mDok rfl (by decide) (.inr (.inr (.inl ⟨rfl, rfl⟩))) (fun _ _ _ _ _ _ _ _ _ _ _ => trivial) mtk_RX12 (q_f1 (ms_11 γ l) (q_f1 (ms_13 γ l) (q_f1 (ms_50 γ l) q_f0))) pk_X12_needsNumber (by decide +kernel)
/-- (X12_needsNumber, 0, z, (0, 0), (6, 6)) -/
theorem ms_52 (γ : kΓ) (l : Launch) : qSem γ l mD (fun _ => True) mMT mn_52 := q_sem (xr := []) (tb := mtb_RX12) (B := [mn_13]) (rk := 2) (T := pg_X12_needsNumber) (sps := []) (cuts := []) (fu := 3000) (y := (yX12_needsNumber, cX12_needsNumber, 3, (some FieldType.boolean))) mDok rfl (by decide) (.inr (.inr (.inl ⟨rfl, rfl⟩))) (fun _ _ _ _ _ _ _ _ _ _ _ => trivial) mtk_RX12 (q_f1 (ms_13 γ l) q_f0) pk_X12_needsNumber (by decide +kernel)
/-- (X12_needsBoth, 0, nz, (0, 0), (6, 6)) -/
theorem ms_53 (γ : kΓ) (l : Launch) : qSem γ l mD (fun _ => True) mMT mn_53 := q_sem (xr := []) (tb := mtb_RX12) (B := [mn_11, mn_13, mn_14, mn_51, mn_52]) (rk := 2) (T := pg_X12_needsBoth) (sps := []) (cuts := []) (fu := 3000) (y := (yX12_needsBoth, cX12_needsBoth, 5, (some FieldType.boolean))) mDok rfl (by decide) (.inr (.inr (.inl ⟨rfl, rfl⟩))) (fun _ _ _ _ _ _ _ _ _ _ _ => trivial) mtk_RX12 (q_f1 (ms_11 γ l) (q_f1 (ms_13 γ l) (q_f1 (ms_14 γ l) (q_f1 (ms_51 γ l) (q_f1 (ms_52 γ l) q_f0))))) pk_X12_needsBoth (by decide +kernel)
/-- (X12_needsBoth, 0, z, (0, 0), (20, 20)) -/
theorem ms_54 (γ : kΓ) (l : Launch) : qSem γ l mD (fun _ => True) mMT mn_54 := q_sem (xr := []) (tb := mtb_RX12) (B := [mn_13, mn_27]) (rk := 2) (T := pg_X12_needsBoth) (sps := []) (cuts := []) (fu := 3000) (y := (yX12_needsBoth, cX12_needsBoth, 5, (some FieldType.boolean))) mDok rfl (by decide) (.inr (.inr (.inl ⟨rfl, rfl⟩))) (fun _ _ _ _ _ _ _ _ _ _ _ => trivial) mtk_RX12 (q_f1 (ms_13 γ l) (q_f1 (ms_27 γ l) q_f0)) pk_X12_needsBoth (by decide +kernel)
/-- (X12_needsBoth, 0, z, (0, 0), (6, 6)) -/
theorem ms_55 (γ : kΓ) (l : Launch) : qSem γ l mD (fun _ => True) mMT mn_55 := q_sem (xr := []) (tb := mtb_RX12) (B := [mn_13, mn_27]) (rk := 2) (T := pg_X12_needsBoth) (sps := []) (cuts := []) (fu := 3000) (y := (yX12_needsBoth, cX12_needsBoth, 5, (some FieldType.boolean))) mDok rfl (by decide) (.inr (.inr (.inl ⟨rfl, rfl⟩))) (fun _ _ _ _ _ _ _ _ _ _ _ => trivial) mtk_RX12 (q_f1 (ms_13 γ l) (q_f1 (ms_27 γ l) q_f0)) pk_X12_needsBoth (by decide +kernel)
/-- (X12_readsThought, 0, nz) -/
theorem ms_56 (γ : kΓ) (l : Launch) : qSem γ l mD (fun _ => True) mMT mn_56 := q_sem (xr := []) (tb := mtb_RX12) (B := [mn_11, mn_13, mn_16, mn_18, mn_46, mn_47, mn_49, mn_53, mn_54, mn_55]) (rk := 2) (T := pg_X12_readsThought) (sps := []) (cuts := []) (fu := 3000) (y := (yX12_readsThought, cX12_readsThought, 2, (some FieldType.boolean))) mDok rfl (by decide) (.inr (.inr (.inl ⟨rfl, rfl⟩))) (fun _ _ _ _ _ _ _ _ _ _ _ => trivial) mtk_RX12 (q_f1 (ms_11 γ l) (q_f1 (ms_13 γ l) (q_f1 (ms_16 γ l) (q_f1 (ms_18 γ l) (q_f1 (ms_46 γ l) (q_f1 (ms_47 γ l) (q_f1 (ms_49 γ l) (q_f1 (ms_53 γ l) (q_f1 (ms_54 γ l) (q_f1 (ms_55 γ l) q_f0)))))))))) pk_X12_readsThought (by decide +kernel)
/-- (X12_usual, 0, (1, 1)) -/
theorem ms_57 (γ : kΓ) (l : Launch) : qSem γ l mD (fun _ => True) mMT mn_57 := q_sem (xr := []) (tb := mtb_RX12) (B := []) (rk := 0) (T := pg_X12_usual) (sps := []) (cuts := []) (fu := 3000) (y := (yX12_usual, cX12_usual, 2, none)) mDok rfl (by decide) (.inl ⟨rfl, rfl⟩) (fun _ _ _ _ _ _ _ _ _ _ _ => trivial) mtk_RX12 q_f0 pk_X12_usual (by decide +kernel)
/-- (X12_readsAll, 0, any) -/
theorem ms_58 (γ : kΓ) (l : Launch) : qSem γ l mD (fun _ => True) mMT mn_58 := q_sem (xr := []) (tb := mtb_RX12) (B := [mn_12, mn_13, mn_14, mn_24, mn_31, mn_32, mn_36, mn_40, mn_44, mn_48, mn_56, mn_57]) (rk := 2) (T := pg_X12_readsAll) (sps := []) (cuts := [(52, (([(1, 4), (1, 4), (0, 999), (1, 1000), (1, 1000), (1000, 1999), (2, 12)], [(2, 5, (-1000)), (3, 2, 1), (3, 5, (-1000)), (4, 2, 1), (4, 3, 0)], []), ([(1, (0, 0, 0)), (0, (3, 0, 0))], []), ([], [(0, 1, (1, 0, 0)), (0, 6, (0, 1, 0)), (0, 5, (0, 2, 0)), (0, 4, (0, 3, 0)), (0, 3, (0, 4, 0)), (0, 20, (0, 5, 0)), (2, 7, (0, 6, 0))], [])), (1001, [((-1), 3)])), (52, (([(1, 4), (0, 1000), (0, 1000), (0, 1000), (1000, 2000), (2, 12)], [(1, 4, (-1000)), (2, 1, 0), (2, 4, (-1000)), (3, 1, 0), (3, 2, 0)], []), ([(1, (0, 0, 0)), (0, (3, 0, 0))], []), ([], [(0, 1, (1, 0, 0)), (0, 6, (1, 0, 0)), (0, 5, (0, 1, 0)), (0, 4, (0, 2, 0)), (0, 3, (0, 3, 0)), (0, 20, (0, 4, 0)), (2, 7, (0, 5, 0))], [])), (0, [])), (7, (([(2, 4)], [], []), ([(1, (0, 0, 0)), (0, (3, 0, 0))], []), ([], [(2, 7, (1, 0, 10))], [])), (1005, [((-1), 0)]))]) (fu := 3000) (y := (yX12_readsAll, cX12_readsAll, 2, (some FieldType.boolean))) mDok rfl (by decide) (.inr (.inr (.inl ⟨rfl, rfl⟩))) (fun _ _ _ _ _ _ _ _ _ _ _ => trivial) mtk_RX12 (q_f1 (ms_12 γ l) (q_f1 (ms_13 γ l) (q_f1 (ms_14 γ l) (q_f1 (ms_24 γ l) (q_f1 (ms_31 γ l) (q_f1 (ms_32 γ l) (q_f1 (ms_36 γ l) (q_f1 (ms_40 γ l) (q_f1 (ms_44 γ l) (q_f1 (ms_48 γ l) (q_f1 (ms_56 γ l) (q_f1 (ms_57 γ l) q_f0)))))))))))) pk_X12_readsAll (by decide +kernel)
/-- (X12_abbey, 0) -/
theorem ms_59 (γ : kΓ) (l : Launch) : qSem γ l mD (fun _ => True) mMT mn_59 := q_sem (xr := []) (tb := mtb_RX12) (B := [mn_0, mn_9, mn_58]) (rk := 1) (T := pg_X12_abbey) (sps := []) (cuts := [(46, (([(0, 4), ((-2147483648), 2147483647), ((-2147483648), 2147483647), (2, 12), (0, 5), (0, 8)], [], []), ([(1, (0, 0, 0)), (0, (3, 0, 0))], []), ([], [(0, 49, (1, 0, 0)), (28, 0, (1, 0, 0)), (0, 40, (3, 28, 0)), (24, 0, (1, 0, 0)), (0, 36, (3, 24, 0)), (0, 1, (1, 0, 0)), (2, 9, (0, 1, 0)), (2, 8, (0, 2, 0)), (2, 7, (0, 3, 0)), (2, 6, (0, 4, 0)), (2, 5, (0, 5, 0)), (0, 0, (1, 0, 0))], [])), (4, [((-1), 0)]))]) (fu := 3000) (y := (yX12_abbey, cX12_abbey, 2, (some FieldType.int))) mDok rfl (by decide) (.inr (.inl ⟨rfl, rfl⟩)) (fun _ _ _ _ _ _ _ _ _ _ _ => trivial) mtk_RX12 (q_f1 (ms_0 γ l) (q_f1 (ms_9 γ l) (q_f1 (ms_58 γ l) q_f0))) pk_X12_abbey (by decide +kernel)
/-- (X12_all, 0) -/
theorem ms_60 (γ : kΓ) (l : Launch) : qSem γ l mD (fun _ => True) mMT mn_60 := q_sem (xr := []) (tb := mtb_RX12) (B := []) (rk := 1) (T := pg_X12_all) (sps := []) (cuts := []) (fu := 3000) (y := (yX12_all, cX12_all, 1, (some FieldType.int))) mDok rfl (by decide) (.inr (.inl ⟨rfl, rfl⟩)) (fun _ _ _ _ _ _ _ _ _ _ _ => trivial) mtk_RX12 q_f0 pk_X12_all (by decide +kernel)
/-- (X12_allBehind, 0) -/
theorem ms_61 (γ : kΓ) (l : Launch) : qSem γ l mD (fun _ => True) mMT mn_61 := q_sem (xr := []) (tb := mtb_RX12) (B := []) (rk := 1) (T := pg_X12_allBehind) (sps := []) (cuts := [(4, (([(0, 255), (0, 8), (0, 255)], [], []), ([(3, (0, 1, 0)), (2, (0, 2, 0)), (0, (3, 0, 0)), (1, (0, 0, 0))], []), ([], [], [])), (8, [((-1), 1)]))]) (fu := 3000) (y := (yX12_allBehind, cX12_allBehind, 4, (some FieldType.int))) mDok rfl (by decide) (.inr (.inl ⟨rfl, rfl⟩)) (fun _ _ _ _ _ _ _ _ _ _ _ => trivial) mtk_RX12 q_f0 pk_X12_allBehind (by decide +kernel)
/-- (X12_bits, r, -1) -/
theorem ms_62 (γ : kΓ) (l : Launch) : qSem γ l mD (fun _ => True) mMT mn_62 := q_sem (xr := []) (tb := mtb_RX12) (B := []) (rk := 1) (T := pg_X12_bits) (sps := []) (cuts := []) (fu := 3000) (y := (yX12_bits, cX12_bits, 3, (some FieldType.int))) mDok rfl (by decide) (.inr (.inl ⟨rfl, rfl⟩)) (fun _ _ _ _ _ _ _ _ _ _ _ => trivial) mtk_RX12 q_f0 pk_X12_bits (by decide +kernel)
/-- (X12_bits, r, 0) -/
theorem ms_63 (γ : kΓ) (l : Launch) : qSem γ l mD (fun _ => True) mMT mn_63 := q_sem (xr := []) (tb := mtb_RX12) (B := []) (rk := 1) (T := pg_X12_bits) (sps := []) (cuts := []) (fu := 3000) (y := (yX12_bits, cX12_bits, 3, (some FieldType.int))) mDok rfl (by decide) (.inr (.inl ⟨rfl, rfl⟩)) (fun _ _ _ _ _ _ _ _ _ _ _ => trivial) mtk_RX12 q_f0 pk_X12_bits (by decide +kernel)
/-- (X12_bits, r, 1) -/
theorem ms_64 (γ : kΓ) (l : Launch) : qSem γ l mD (fun _ => True) mMT mn_64 := q_sem (xr := []) (tb := mtb_RX12) (B := []) (rk := 1) (T := pg_X12_bits) (sps := []) (cuts := []) (fu := 3000) (y := (yX12_bits, cX12_bits, 3, (some FieldType.int))) mDok rfl (by decide) (.inr (.inl ⟨rfl, rfl⟩)) (fun _ _ _ _ _ _ _ _ _ _ _ => trivial) mtk_RX12 q_f0 pk_X12_bits (by decide +kernel)
/-- (X12_bits, r, 2) -/
theorem ms_65 (γ : kΓ) (l : Launch) : qSem γ l mD (fun _ => True) mMT mn_65 := q_sem (xr := []) (tb := mtb_RX12) (B := []) (rk := 1) (T := pg_X12_bits) (sps := []) (cuts := []) (fu := 3000) (y := (yX12_bits, cX12_bits, 3, (some FieldType.int))) mDok rfl (by decide) (.inr (.inl ⟨rfl, rfl⟩)) (fun _ _ _ _ _ _ _ _ _ _ _ => trivial) mtk_RX12 q_f0 pk_X12_bits (by decide +kernel)
/-- (X12_bits, r, 3) -/
theorem ms_66 (γ : kΓ) (l : Launch) : qSem γ l mD (fun _ => True) mMT mn_66 := q_sem (xr := []) (tb := mtb_RX12) (B := []) (rk := 1) (T := pg_X12_bits) (sps := []) (cuts := []) (fu := 3000) (y := (yX12_bits, cX12_bits, 3, (some FieldType.int))) mDok rfl (by decide) (.inr (.inl ⟨rfl, rfl⟩)) (fun _ _ _ _ _ _ _ _ _ _ _ => trivial) mtk_RX12 q_f0 pk_X12_bits (by decide +kernel)
/-- (X12_bits, r, 4) -/
theorem ms_67 (γ : kΓ) (l : Launch) : qSem γ l mD (fun _ => True) mMT mn_67 := q_sem (xr := []) (tb := mtb_RX12) (B := []) (rk := 1) (T := pg_X12_bits) (sps := []) (cuts := []) (fu := 3000) (y := (yX12_bits, cX12_bits, 3, (some FieldType.int))) mDok rfl (by decide) (.inr (.inl ⟨rfl, rfl⟩)) (fun _ _ _ _ _ _ _ _ _ _ _ => trivial) mtk_RX12 q_f0 pk_X12_bits (by decide +kernel)
/-- (X12_bits, r, 5) -/
theorem ms_68 (γ : kΓ) (l : Launch) : qSem γ l mD (fun _ => True) mMT mn_68 := q_sem (xr := []) (tb := mtb_RX12) (B := []) (rk := 1) (T := pg_X12_bits) (sps := []) (cuts := []) (fu := 3000) (y := (yX12_bits, cX12_bits, 3, (some FieldType.int))) mDok rfl (by decide) (.inr (.inl ⟨rfl, rfl⟩)) (fun _ _ _ _ _ _ _ _ _ _ _ => trivial) mtk_RX12 q_f0 pk_X12_bits (by decide +kernel)
/-- (X12_bits, r, 6) -/
theorem ms_69 (γ : kΓ) (l : Launch) : qSem γ l mD (fun _ => True) mMT mn_69 := q_sem (xr := []) (tb := mtb_RX12) (B := []) (rk := 1) (T := pg_X12_bits) (sps := []) (cuts := []) (fu := 3000) (y := (yX12_bits, cX12_bits, 3, (some FieldType.int))) mDok rfl (by decide) (.inr (.inl ⟨rfl, rfl⟩)) (fun _ _ _ _ _ _ _ _ _ _ _ => trivial) mtk_RX12 q_f0 pk_X12_bits (by decide +kernel)
/-- (X12_bits, r, 7) -/
theorem ms_70 (γ : kΓ) (l : Launch) : qSem γ l mD (fun _ => True) mMT mn_70 := q_sem (xr := []) (tb := mtb_RX12) (B := []) (rk := 1) (T := pg_X12_bits) (sps := []) (cuts := []) (fu := 3000) (y := (yX12_bits, cX12_bits, 3, (some FieldType.int))) mDok rfl (by decide) (.inr (.inl ⟨rfl, rfl⟩)) (fun _ _ _ _ _ _ _ _ _ _ _ => trivial) mtk_RX12 q_f0 pk_X12_bits (by decide +kernel)
/-- bits: out of its ranges -/
theorem ms_71 (γ : kΓ) (l : Launch) : qSem γ l mD (fun _ => True) mMT mn_71 := by
  refine ⟨_, rfl, fun adr ws av hp => ?_⟩
  match av, hp.2.2.1 with
  | [v], ⟨hv, _⟩ =>
    obtain ⟨x, rfl, hx⟩ := hv.1 rfl
    have hx : 0 ≤ x.toInt ∧ x.toInt ≤ 255 := hx
    by_cases h62 : 0 ≤ x.toInt ∧ x.toInt ≤ 0
    · obtain ⟨y, hy, hs⟩ := ms_62 γ l
      cases hy
      refine k_imp (hs adr ws [.int x] ⟨hp.1, trivial, ⟨⟨fun _ => ⟨x, rfl, h62⟩, fun h => (by cases h), fun h => (by cases h)⟩, trivial⟩, fun f hf => (by cases hf), fun f hf => (by cases hf)⟩) (fun r w1 hq => ?_)
      obtain ⟨q1, q2, q3, t, t1, t2⟩ := hq
      have t1 := List.mem_singleton.mp t1
      subst t1
      obtain ⟨z, w, e1, rfl, e2⟩ := t2.1.elim (fun h => by cases h.1) id
      cases e1
      obtain ⟨b, rfl, hb⟩ := e2.1 rfl
      exact ⟨q1, q2, q3, _, List.mem_cons_of_mem _ List.mem_cons_self, .inr ⟨_, _, rfl, rfl, fun _ => ⟨b, rfl, ⟨Int.le_trans (by decide) hb.1, Int.le_trans hb.2 (by decide)⟩⟩, fun h => (by cases h), fun h => (by cases h)⟩, fun f hf => (by cases hf), fun q hq => ⟨x, by rw [List.mem_singleton.mp hq]; rfl, by rw [List.mem_singleton.mp hq]; exact ⟨by show (0 : Int) ≤ _; omega, by show _ ≤ (0 : Int); omega⟩⟩, fun f hf => (by cases hf), fun q hq => (by cases hq)⟩
    by_cases h63 : 1 ≤ x.toInt ∧ x.toInt ≤ 1
    · obtain ⟨y, hy, hs⟩ := ms_63 γ l
      cases hy
      refine k_imp (hs adr ws [.int x] ⟨hp.1, trivial, ⟨⟨fun _ => ⟨x, rfl, h63⟩, fun h => (by cases h), fun h => (by cases h)⟩, trivial⟩, fun f hf => (by cases hf), fun f hf => (by cases hf)⟩) (fun r w1 hq => ?_)
      obtain ⟨q1, q2, q3, t, t1, t2⟩ := hq
      have t1 := List.mem_singleton.mp t1
      subst t1
      obtain ⟨z, w, e1, rfl, e2⟩ := t2.1.elim (fun h => by cases h.1) id
      cases e1
      obtain ⟨b, rfl, hb⟩ := e2.1 rfl
      exact ⟨q1, q2, q3, _, List.mem_cons_self, .inr ⟨_, _, rfl, rfl, fun _ => ⟨b, rfl, ⟨Int.le_trans (by decide) hb.1, Int.le_trans hb.2 (by decide)⟩⟩, fun h => (by cases h), fun h => (by cases h)⟩, fun f hf => (by cases hf), fun q hq => ⟨x, by rw [List.mem_singleton.mp hq]; rfl, by rw [List.mem_singleton.mp hq]; exact ⟨by show (1 : Int) ≤ _; omega, by show _ ≤ (255 : Int); omega⟩⟩, fun f hf => (by cases hf), fun q hq => (by cases hq)⟩
    by_cases h64 : 2 ≤ x.toInt ∧ x.toInt ≤ 3
    · obtain ⟨y, hy, hs⟩ := ms_64 γ l
      cases hy
      refine k_imp (hs adr ws [.int x] ⟨hp.1, trivial, ⟨⟨fun _ => ⟨x, rfl, h64⟩, fun h => (by cases h), fun h => (by cases h)⟩, trivial⟩, fun f hf => (by cases hf), fun f hf => (by cases hf)⟩) (fun r w1 hq => ?_)
      obtain ⟨q1, q2, q3, t, t1, t2⟩ := hq
      have t1 := List.mem_singleton.mp t1
      subst t1
      obtain ⟨z, w, e1, rfl, e2⟩ := t2.1.elim (fun h => by cases h.1) id
      cases e1
      obtain ⟨b, rfl, hb⟩ := e2.1 rfl
      exact ⟨q1, q2, q3, _, List.mem_cons_self, .inr ⟨_, _, rfl, rfl, fun _ => ⟨b, rfl, ⟨Int.le_trans (by decide) hb.1, Int.le_trans hb.2 (by decide)⟩⟩, fun h => (by cases h), fun h => (by cases h)⟩, fun f hf => (by cases hf), fun q hq => ⟨x, by rw [List.mem_singleton.mp hq]; rfl, by rw [List.mem_singleton.mp hq]; exact ⟨by show (1 : Int) ≤ _; omega, by show _ ≤ (255 : Int); omega⟩⟩, fun f hf => (by cases hf), fun q hq => (by cases hq)⟩
    by_cases h65 : 4 ≤ x.toInt ∧ x.toInt ≤ 7
    · obtain ⟨y, hy, hs⟩ := ms_65 γ l
      cases hy
      refine k_imp (hs adr ws [.int x] ⟨hp.1, trivial, ⟨⟨fun _ => ⟨x, rfl, h65⟩, fun h => (by cases h), fun h => (by cases h)⟩, trivial⟩, fun f hf => (by cases hf), fun f hf => (by cases hf)⟩) (fun r w1 hq => ?_)
      obtain ⟨q1, q2, q3, t, t1, t2⟩ := hq
      have t1 := List.mem_singleton.mp t1
      subst t1
      obtain ⟨z, w, e1, rfl, e2⟩ := t2.1.elim (fun h => by cases h.1) id
      cases e1
      obtain ⟨b, rfl, hb⟩ := e2.1 rfl
      exact ⟨q1, q2, q3, _, List.mem_cons_self, .inr ⟨_, _, rfl, rfl, fun _ => ⟨b, rfl, ⟨Int.le_trans (by decide) hb.1, Int.le_trans hb.2 (by decide)⟩⟩, fun h => (by cases h), fun h => (by cases h)⟩, fun f hf => (by cases hf), fun q hq => ⟨x, by rw [List.mem_singleton.mp hq]; rfl, by rw [List.mem_singleton.mp hq]; exact ⟨by show (1 : Int) ≤ _; omega, by show _ ≤ (255 : Int); omega⟩⟩, fun f hf => (by cases hf), fun q hq => (by cases hq)⟩
    by_cases h66 : 8 ≤ x.toInt ∧ x.toInt ≤ 15
    · obtain ⟨y, hy, hs⟩ := ms_66 γ l
      cases hy
      refine k_imp (hs adr ws [.int x] ⟨hp.1, trivial, ⟨⟨fun _ => ⟨x, rfl, h66⟩, fun h => (by cases h), fun h => (by cases h)⟩, trivial⟩, fun f hf => (by cases hf), fun f hf => (by cases hf)⟩) (fun r w1 hq => ?_)
      obtain ⟨q1, q2, q3, t, t1, t2⟩ := hq
      have t1 := List.mem_singleton.mp t1
      subst t1
      obtain ⟨z, w, e1, rfl, e2⟩ := t2.1.elim (fun h => by cases h.1) id
      cases e1
      obtain ⟨b, rfl, hb⟩ := e2.1 rfl
      exact ⟨q1, q2, q3, _, List.mem_cons_self, .inr ⟨_, _, rfl, rfl, fun _ => ⟨b, rfl, ⟨Int.le_trans (by decide) hb.1, Int.le_trans hb.2 (by decide)⟩⟩, fun h => (by cases h), fun h => (by cases h)⟩, fun f hf => (by cases hf), fun q hq => ⟨x, by rw [List.mem_singleton.mp hq]; rfl, by rw [List.mem_singleton.mp hq]; exact ⟨by show (1 : Int) ≤ _; omega, by show _ ≤ (255 : Int); omega⟩⟩, fun f hf => (by cases hf), fun q hq => (by cases hq)⟩
    by_cases h67 : 16 ≤ x.toInt ∧ x.toInt ≤ 31
    · obtain ⟨y, hy, hs⟩ := ms_67 γ l
      cases hy
      refine k_imp (hs adr ws [.int x] ⟨hp.1, trivial, ⟨⟨fun _ => ⟨x, rfl, h67⟩, fun h => (by cases h), fun h => (by cases h)⟩, trivial⟩, fun f hf => (by cases hf), fun f hf => (by cases hf)⟩) (fun r w1 hq => ?_)
      obtain ⟨q1, q2, q3, t, t1, t2⟩ := hq
      have t1 := List.mem_singleton.mp t1
      subst t1
      obtain ⟨z, w, e1, rfl, e2⟩ := t2.1.elim (fun h => by cases h.1) id
      cases e1
      obtain ⟨b, rfl, hb⟩ := e2.1 rfl
      exact ⟨q1, q2, q3, _, List.mem_cons_self, .inr ⟨_, _, rfl, rfl, fun _ => ⟨b, rfl, ⟨Int.le_trans (by decide) hb.1, Int.le_trans hb.2 (by decide)⟩⟩, fun h => (by cases h), fun h => (by cases h)⟩, fun f hf => (by cases hf), fun q hq => ⟨x, by rw [List.mem_singleton.mp hq]; rfl, by rw [List.mem_singleton.mp hq]; exact ⟨by show (1 : Int) ≤ _; omega, by show _ ≤ (255 : Int); omega⟩⟩, fun f hf => (by cases hf), fun q hq => (by cases hq)⟩
    by_cases h68 : 32 ≤ x.toInt ∧ x.toInt ≤ 63
    · obtain ⟨y, hy, hs⟩ := ms_68 γ l
      cases hy
      refine k_imp (hs adr ws [.int x] ⟨hp.1, trivial, ⟨⟨fun _ => ⟨x, rfl, h68⟩, fun h => (by cases h), fun h => (by cases h)⟩, trivial⟩, fun f hf => (by cases hf), fun f hf => (by cases hf)⟩) (fun r w1 hq => ?_)
      obtain ⟨q1, q2, q3, t, t1, t2⟩ := hq
      have t1 := List.mem_singleton.mp t1
      subst t1
      obtain ⟨z, w, e1, rfl, e2⟩ := t2.1.elim (fun h => by cases h.1) id
      cases e1
      obtain ⟨b, rfl, hb⟩ := e2.1 rfl
      exact ⟨q1, q2, q3, _, List.mem_cons_self, .inr ⟨_, _, rfl, rfl, fun _ => ⟨b, rfl, ⟨Int.le_trans (by decide) hb.1, Int.le_trans hb.2 (by decide)⟩⟩, fun h => (by cases h), fun h => (by cases h)⟩, fun f hf => (by cases hf), fun q hq => ⟨x, by rw [List.mem_singleton.mp hq]; rfl, by rw [List.mem_singleton.mp hq]; exact ⟨by show (1 : Int) ≤ _; omega, by show _ ≤ (255 : Int); omega⟩⟩, fun f hf => (by cases hf), fun q hq => (by cases hq)⟩
    by_cases h69 : 64 ≤ x.toInt ∧ x.toInt ≤ 127
    · obtain ⟨y, hy, hs⟩ := ms_69 γ l
      cases hy
      refine k_imp (hs adr ws [.int x] ⟨hp.1, trivial, ⟨⟨fun _ => ⟨x, rfl, h69⟩, fun h => (by cases h), fun h => (by cases h)⟩, trivial⟩, fun f hf => (by cases hf), fun f hf => (by cases hf)⟩) (fun r w1 hq => ?_)
      obtain ⟨q1, q2, q3, t, t1, t2⟩ := hq
      have t1 := List.mem_singleton.mp t1
      subst t1
      obtain ⟨z, w, e1, rfl, e2⟩ := t2.1.elim (fun h => by cases h.1) id
      cases e1
      obtain ⟨b, rfl, hb⟩ := e2.1 rfl
      exact ⟨q1, q2, q3, _, List.mem_cons_self, .inr ⟨_, _, rfl, rfl, fun _ => ⟨b, rfl, ⟨Int.le_trans (by decide) hb.1, Int.le_trans hb.2 (by decide)⟩⟩, fun h => (by cases h), fun h => (by cases h)⟩, fun f hf => (by cases hf), fun q hq => ⟨x, by rw [List.mem_singleton.mp hq]; rfl, by rw [List.mem_singleton.mp hq]; exact ⟨by show (1 : Int) ≤ _; omega, by show _ ≤ (255 : Int); omega⟩⟩, fun f hf => (by cases hf), fun q hq => (by cases hq)⟩
    by_cases h70 : 128 ≤ x.toInt ∧ x.toInt ≤ 255
    · obtain ⟨y, hy, hs⟩ := ms_70 γ l
      cases hy
      refine k_imp (hs adr ws [.int x] ⟨hp.1, trivial, ⟨⟨fun _ => ⟨x, rfl, h70⟩, fun h => (by cases h), fun h => (by cases h)⟩, trivial⟩, fun f hf => (by cases hf), fun f hf => (by cases hf)⟩) (fun r w1 hq => ?_)
      obtain ⟨q1, q2, q3, t, t1, t2⟩ := hq
      have t1 := List.mem_singleton.mp t1
      subst t1
      obtain ⟨z, w, e1, rfl, e2⟩ := t2.1.elim (fun h => by cases h.1) id
      cases e1
      obtain ⟨b, rfl, hb⟩ := e2.1 rfl
      exact ⟨q1, q2, q3, _, List.mem_cons_self, .inr ⟨_, _, rfl, rfl, fun _ => ⟨b, rfl, ⟨Int.le_trans (by decide) hb.1, Int.le_trans hb.2 (by decide)⟩⟩, fun h => (by cases h), fun h => (by cases h)⟩, fun f hf => (by cases hf), fun q hq => ⟨x, by rw [List.mem_singleton.mp hq]; rfl, by rw [List.mem_singleton.mp hq]; exact ⟨by show (1 : Int) ≤ _; omega, by show _ ≤ (255 : Int); omega⟩⟩, fun f hf => (by cases hf), fun q hq => (by cases hq)⟩
    exfalso; omega

/-- (X12_fitting, 0) -/
theorem ms_72 (γ : kΓ) (l : Launch) : qSem γ l mD (fun _ => True) mMT mn_72 := q_sem (xr := []) (tb := mtb_RX12) (B := []) (rk := 1) (T := pg_X12_fitting) (sps := []) (cuts := [(19, (([(0, 8), (0, 1), (0, 7), (0, 255), (1, 8)], [(4, 2, 1)], []), ([(4, (0, 0, 0)), (3, (0, 1, 0)), (2, (0, 2, 0)), (1, (0, 3, 0)), (0, (3, 0, 0))], []), ([], [(2, 0, (0, 4, 0)), (0, 10, (3, 2, 0))], [])), (88, [((-1), 0), ((-10), 2)])), (4, (([(0, 8), (0, 255)], [], []), ([(2, (0, 0, 0)), (1, (0, 1, 0)), (0, (3, 0, 0))], []), ([], [], [])), (89, [((-10), 0)]))]) (fu := 3000) (y := (yX12_fitting, cX12_fitting, 5, (some FieldType.int))) mDok rfl (by decide) (.inr (.inl ⟨rfl, rfl⟩)) (fun _ _ _ _ _ _ _ _ _ _ _ => trivial) mtk_RX12 q_f0 pk_X12_fitting (by decide +kernel)
/-- (X12_ask, 0) -/
theorem ms_73 (γ : kΓ) (l : Launch) : qSem γ l mD (fun _ => True) mMT mn_73 := q_sem (xr := []) (tb := mtb_RX12) (B := [mn_71, mn_72]) (rk := 1) (T := pg_X12_ask) (sps := []) (cuts := [(20, (([(0, 8), ((-1), 7), ((-2147483648), 8), (0, 255)], [(0, 1, 1)], []), ([(4, (0, 0, 0)), (3, (0, 1, 0)), (2, (0, 2, 0)), (1, (0, 3, 0)), (0, (3, 0, 0))], []), ([], [(0, 0, (1, 0, 0))], [])), (89, [((-10), 0)])), (37, (([(0, 8), ((-2147483648), 2147483647), (0, 7), ((-1), 7), ((-2147483648), 8), (0, 255), (1, 8)], [(2, 3, 1), (6, 0, 0), (6, 2, 1)], []), ([(6, (0, 0, 0)), (5, (0, 1, 0)), (4, (0, 2, 0)), (3, (0, 3, 0)), (2, (0, 4, 0)), (1, (0, 5, 0)), (0, (3, 0, 0))], []), ([], [(2, 0, (0, 6, 0)), (0, 10, (3, 2, 0)), (0, 0, (1, 0, 0))], [])), (88, [((-1), 0), ((-10), 2)]))]) (fu := 3000) (y := (yX12_ask, cX12_ask, 7, (some FieldType.int))) mDok rfl (by decide) (.inr (.inl ⟨rfl, rfl⟩)) (fun _ _ _ _ _ _ _ _ _ _ _ => trivial) mtk_RX12 (q_f1 (ms_71 γ l) (q_f1 (ms_72 γ l) q_f0)) pk_X12_ask (by decide +kernel)
/-- (X12_of, 0, (0, 0), (0, 0)) -/
theorem ms_74 (γ : kΓ) (l : Launch) : qSem γ l mD (fun _ => True) mMT mn_74 := q_sem (xr := []) (tb := mtb_RX12) (B := []) (rk := 1) (T := pg_X12_of) (sps := [(11, 1000)]) (cuts := []) (fu := 3000) (y := (yX12_of, cX12_of, 3, (some FieldType.int))) mDok rfl (by decide) (.inr (.inl ⟨rfl, rfl⟩)) (fun _ _ _ _ _ _ _ _ _ _ _ => trivial) mtk_RX12 q_f0 pk_X12_of (by decide +kernel)

/-! what holds while an abbey is read -/
def mY2 (ws : va_W) (j : Nat) : Prop := (1000 ≤ mGet ws 9 j ∧ mGet ws 9 j ≤ mGet ws 0 20) ∧ (1000 ≤ mGet ws 10 j ∧ mGet ws 10 j ≤ mGet ws 0 20) ∧ (mGet ws 9 j < mGet ws 10 j → (mRun (mGet ws 11) (mGet ws 10 j - mGet ws 9 j).toNat (mGet ws 9 j).toNat []).isSome = true)
def mY (ws : va_W) : Prop := mX ws ∧ (1000 ≤ mGet ws 0 20 ∧ mGet ws 0 20 ≤ 2000) ∧ ∀ j, 2 ≤ j → j < 4 → mY2 ws j
theorem m_depY : qdep2 mD mXr [(0, 20, 20)] mY := by
  intro ws w1 he h hx
  have g : ∀ q, q ∈ mXr → ∀ k, mGet w1 q k = mGet ws q k := fun q hq k => m_get1 he (fun a a' c c' h1 h2 => h q q a a' c c' (by
    unfold mXr at hq
    simp only [List.mem_cons, List.mem_nil_iff, or_false] at hq
    rcases hq with rfl | rfl | rfl | rfl | rfl <;> decide +kernel) h1 h2 k (.inl hq))
  have g0 : mGet w1 0 20 = mGet ws 0 20 := m_get1 he (fun a a' c c' h1 h2 => h 0 0 a a' c c' (by decide +kernel) h1 h2 20 (.inr (by decide)))
  have g9 : mGet w1 9 = mGet ws 9 := funext (g 9 (by decide))
  have g10 : mGet w1 10 = mGet ws 10 := funext (g 10 (by decide))
  have g11 : mGet w1 11 = mGet ws 11 := funext (g 11 (by decide))
  refine ⟨m_dep ws w1 he (fun q g a a' c c' hg hq h1 h2 k => h q g a a' c c' hg h1 h2 k (.inl hq)) hx.1, by rw [g0]; exact hx.2.1, fun j h1 h2 => ?_⟩
  unfold mY2
  rw [g9, g10, g11, g0]
  exact hx.2.2 j h1 h2
theorem m_yok (adr : List Nat) (ws : va_W) (q g a : Nat) (c : va_E) (hg : mD.1[q]? = some g) (hx : ¬ g ∈ (0 :: mXr)) (he : ws.map Prod.fst = adr) (ha : adr[q]? = some a) (h : mY ws) : mY (ws.set q (a, c)) := by
  have hd : qdep mD (0 :: mXr) mY := fun ws w1 he h hx => m_depY ws w1 he (fun q g a a' c c' hg h1 h2 k hk => h q g a a' c c' hg (by
    rcases hk with hk | hk
    · exact List.mem_cons_of_mem _ hk
    · unfold qmod at hk
      simp only [List.any_cons, List.any_nil, Bool.or_false, Bool.and_eq_true, beq_iff_eq] at hk
      rw [← hk.1.1]; exact List.mem_cons_self) h1 h2 k) hx
  exact q_depW hd adr ws q g a c hg hx he ha h
theorem m_upY {γ : kΓ} {l : Launch} {c : qCon} (hm : qfar c.2.2.2.2.2 mXr [(0, 20, 20)] = true) (h : qSem γ l mD (fun _ => True) mMT c) : qSem γ l mD mY mMT c := q_up2 m_depY hm h

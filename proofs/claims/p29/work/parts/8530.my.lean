/-! what holds while an abbey is read -/
def qdep2 (D : qWd) (xr : List Nat) (dp : qMods) (X : va_W → Prop) : Prop := ∀ ws w1 : va_W, ws.map Prod.fst = w1.map Prod.fst → (∀ (q g a a' : Nat) (c c' : va_E), D.1[q]? = some g → ws[q]? = some (a, c) → w1[q]? = some (a', c') → ∀ k, g ∈ xr ∨ qmod dp g k = true → qrd c' k = qrd c k) → X ws → X w1
def qfar (ms : qMods) (xr : List Nat) (dp : qMods) : Bool := ms.all (fun m => !(xr.contains m.1)) && qdis ms dp
theorem q_far {ms : qMods} {xr : List Nat} {dp : qMods} (h : qfar ms xr dp = true) {g k : Nat} (hk : g ∈ xr ∨ qmod dp g k = true) : qmod ms g k = false := by
  unfold qfar at h
  rw [Bool.and_eq_true] at h
  rcases hk with hk | hk
  · unfold qmod
    rw [List.any_eq_false]
    intro m m1 m2
    have := List.all_eq_true.mp h.1 m m1
    simp only [Bool.and_eq_true, beq_iff_eq] at m2
    rw [m2.1.1] at this
    simp only [Bool.not_eq_true', List.contains_eq_mem, decide_eq_false_iff_not] at this
    exact this hk
  · exact q_dis h.2 hk
theorem q_up2 {γ : kΓ} {l : Launch} {D : qWd} {X : va_W → Prop} {MT : List qMt} {c : qCon} {xr : List Nat} {dp : qMods} (hX : qdep2 D xr dp X) (hm : qfar c.2.2.2.2.2 xr dp = true) (h : qSem γ l D (fun _ => True) MT c) : qSem γ l D X MT c := by
  refine q_imp h rfl (fun adr ws av hp => ⟨hp.1, trivial, hp.2.2⟩) (fun adr ws av r w1 hp hq => ⟨hq.1, ?_, hq.2.2⟩)
  exact hX ws w1 (hp.1.1.trans hq.1.1.symm) (fun q g a a' c0 c1 hg h0 h1 k hk => hq.2.2.1 q g a c0 a' c1 hg h0 h1 k (q_far hm hk)) hp.2.1
/-- and beside another -/
theorem q_fr2 {γ : kΓ} {l : Launch} {D : qWd} {X Z : va_W → Prop} {X' : Option Value → va_W → Prop} {MT : List qMt} {c : qCon} {xr : List Nat} {dp : qMods} (hZ : qdep2 D xr dp Z) (hm : qfar c.2.2.2.2.2 xr dp = true) (h : qSem2 γ l D X X' MT c) : qSem2 γ l D (fun w => X w ∧ Z w) (fun r w => X' r w ∧ Z w) MT c := by
  obtain ⟨y, hy, hs⟩ := h
  refine ⟨y, hy, fun adr ws av hp => k_imp (hs adr ws av ⟨hp.1, hp.2.1.1, hp.2.2⟩) (fun r w1 hq => ⟨hq.1, ⟨hq.2.1, ?_⟩, hq.2.2⟩)⟩
  exact hZ ws w1 (hp.1.1.trans hq.1.1.symm) (fun q g a a' c0 c1 hg h0 h1 k hk => hq.2.2.1 q g a c0 a' c1 hg h0 h1 k (q_far hm hk)) hp.2.1.2
def mY2 (ws : va_W) (j : Nat) : Prop := (1000 ≤ mGet ws 9 j ∧ mGet ws 9 j ≤ mGet ws 0 20) ∧ (1000 ≤ mGet ws 10 j ∧ mGet ws 10 j ≤ mGet ws 0 20) ∧ (mGet ws 9 j < mGet ws 10 j → (mRun (mGet ws 11) (mGet ws 10 j - mGet ws 9 j).toNat (mGet ws 9 j).toNat []).isSome = true)
def mY (ws : va_W) : Prop := mX ws ∧ (1000 ≤ mGet ws 0 20 ∧ mGet ws 0 20 ≤ 2000) ∧ ∀ j, 2 ≤ j → j < 4 → mY2 ws j
theorem m_depY : qdep2 mD mXr [(0, 20, 20)] mY := by
  intro ws w1 he h hx
  have g : ∀ q, q ∈ mXr → ∀ k, mGet w1 q k = mGet ws q k := fun q hq k => m_get1 he (fun a a' c c' h1 h2 => h q q a a' c c' (by
    unfold mXr at hq
    simp only [List.mem_cons, List.mem_nil_iff, or_false] at hq
    rcases hq with rfl | rfl | rfl | rfl | rfl <;> decide +kernel) h1 h2 k (.inl hq))
  have g0 : mGet w1 0 20 = mGet ws 0 20 := m_get1 he (fun a a' c c' h1 h2 => h 0 0 a a' c c' (by decide +kernel) h1 h2 20 (.inr (by decide)))
  have g9 : mGet w1 9 = mGet ws 9 := funext (g 9 (by decide))
  have g10 : mGet w1 10 = mGet ws 10 := funext (g 10 (by decide))
  have g11 : mGet w1 11 = mGet ws 11 := funext (g 11 (by decide))
  refine ⟨m_dep ws w1 he (fun q g a a' c c' hg hq h1 h2 k => h q g a a' c c' hg h1 h2 k (.inl hq)) hx.1, by rw [g0]; exact hx.2.1, fun j h1 h2 => ?_⟩
  unfold mY2
  rw [g9, g10, g11, g0]
  exact hx.2.2 j h1 h2
theorem m_yok (adr : List Nat) (ws : va_W) (q g a : Nat) (c : va_E) (hg : mD.1[q]? = some g) (hx : ¬ g ∈ (0 :: mXr)) (he : ws.map Prod.fst = adr) (ha : adr[q]? = some a) (h : mY ws) : mY (ws.set q (a, c)) := by
  have hd : qdep mD (0 :: mXr) mY := fun ws w1 he h hx => m_depY ws w1 he (fun q g a a' c c' hg h1 h2 k hk => h q g a a' c c' hg (by
    rcases hk with hk | hk
    · exact List.mem_cons_of_mem _ hk
    · unfold qmod at hk
      simp only [List.any_cons, List.any_nil, Bool.or_false, Bool.and_eq_true, beq_iff_eq] at hk
      rw [← hk.1.1]; exact List.mem_cons_self) h1 h2 k) hx
  exact q_depW hd adr ws q g a c hg hx he ha h
theorem m_upY {γ : kΓ} {l : Launch} {c : qCon} (hm : qfar c.2.2.2.2.2 mXr [(0, 20, 20)] = true) (h : qSem γ l mD (fun _ => True) mMT c) : qSem γ l mD mY mMT c := q_up2 m_depY hm h

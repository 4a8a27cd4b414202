/-! lays: what held of the draft holds of the abbey -/
theorem m_shr {g g' : Nat → Int} : ∀ (n f : Nat) (s : List Nat), (∀ i, f ≤ i → i < f + n → g' i = g (1000 + i)) → mRun g' n f s = mRun g n (1000 + f) s
  | 0, _, _, _ => rfl
  | n + 1, f, s, h => by
    show (mDl s (g' f)).bind (mRun g' n (f + 1)) = (mDl s (g (1000 + f))).bind (mRun g n (1000 + f + 1))
    rw [h f (Nat.le_refl _) (by omega)]
    have : mRun g' n (f + 1) = mRun g n (1000 + f + 1) := funext (fun s1 => m_shr n (f + 1) s1 (fun i h1 h2 => h i (by omega) (by omega)))
    rw [this]
theorem m_v9 {γ : kΓ} {adr : List Nat} {ws : va_W} (hH : qH mD γ adr (fun _ _ => False) ws) {n k : Nat} (hn : n = 9 ∨ n = 10) (hk : k < 4) : qval ws (n, k, 0, 0) = some (mGet ws n k) := by
  have key : ∃ x : Int32, qval ws (n, k, 0, 0) = some x.toInt := by
    rcases hn with rfl | rfl
    · obtain ⟨x, h1, _⟩ := q_ty hH (n := 9) (g := 9) (k := k) (r := (0, 4, [(4, (0, -2147483648, 2147483647))])) (by decide +kernel) rfl hk (by simp only [qsg]; rw [if_pos hk])
      exact ⟨x, h1⟩
    · obtain ⟨x, h1, _⟩ := q_ty hH (n := 10) (g := 10) (k := k) (r := (0, 4, [(4, (0, -2147483648, 2147483647))])) (by decide +kernel) rfl hk (by simp only [qsg]; rw [if_pos hk])
      exact ⟨x, h1⟩
  obtain ⟨x, hx⟩ := key
  rw [m_gv hx]; exact hx
theorem my_9 (γ : kΓ) (l : Launch) : qSem2 γ l mD mY (fun _ => mX) mMT mn_9 := by
  refine ⟨_, rfl, fun adr ws av hp => ?_⟩
  obtain ⟨y, hy, hs⟩ := m_lays2 γ l (mGet ws 11)
  cases hy
  have hY := hp.2.1
  have hc := hY.2.1
  have y2 := hY.2.2 2 (by decide) (by decide)
  have y3 := hY.2.2 3 (by decide) (by decide)
  refine k_imp (hs adr ws av ⟨hp.1, fun i _ => rfl, hp.2.2.1, fun f hf => ?_, fun f hf => (by cases hf)⟩) (fun r w1 hq => ?_)
  · rcases List.mem_cons.mp hf with h | hf
    · subst h; exact hp.2.2.2.1 _ (.head _)
    rcases List.mem_cons.mp hf with h | hf
    · subst h; exact ⟨_, m_v9 hp.1 (.inl rfl) (by decide), ⟨y2.1.1, by show _ ≤ (2000 : Int); have := y2.1.2; omega⟩⟩
    rcases List.mem_cons.mp hf with h | hf
    · subst h; exact ⟨_, m_v9 hp.1 (.inl rfl) (by decide), ⟨y3.1.1, by show _ ≤ (2000 : Int); have := y3.1.2; omega⟩⟩
    rcases List.mem_cons.mp hf with h | hf
    · subst h; exact ⟨_, m_v9 hp.1 (.inr rfl) (by decide), ⟨y2.2.1.1, by show _ ≤ (2000 : Int); have := y2.2.1.2; omega⟩⟩
    have h := List.mem_singleton.mp hf
    subst h; exact ⟨_, m_v9 hp.1 (.inr rfl) (by decide), ⟨y3.2.1.1, by show _ ≤ (2000 : Int); have := y3.2.1.2; omega⟩⟩
  · obtain ⟨q1, q2, q3, t, t1, t2⟩ := hq
    have t1 := List.mem_singleton.mp t1
    subst t1
    obtain ⟨u1, u2, u3, u4, u5⟩ := t2
    have df : ∀ (n j : Nat), (n = 9 ∨ n = 10) → (∃ x y, qval w1 (n, j, 0, 1000) = some x ∧ qval ws (n, 2 + j, 1000, 2000) = some y ∧ y + (-1000) ≤ x) → (∃ x y, qval ws (n, 2 + j, 1000, 2000) = some x ∧ qval w1 (n, j, 0, 1000) = some y ∧ y + 1000 ≤ x) → mGet w1 n j = mGet ws n (2 + j) - 1000 := by
      intro n j _ ⟨x, y, a1, a2, a3⟩ ⟨x', y', b1, b2, b3⟩
      rw [a2] at b1; cases b1
      rw [a1] at b2; cases b2
      rw [m_gv (x := x) a1, m_gv (x := y) a2]; omega
    have d90 := df 9 0 (.inl rfl) (u4 (5, 1, -1000) (.head _)) (u4 (1, 5, 1000) (.tail _ (.tail _ (.tail _ (.tail _ (.head _))))))
    have d91 := df 9 1 (.inl rfl) (u4 (6, 2, -1000) (.tail _ (.head _))) (u4 (2, 6, 1000) (.tail _ (.tail _ (.tail _ (.tail _ (.tail _ (.head _)))))))
    have d100 := df 10 0 (.inr rfl) (u4 (7, 3, -1000) (.tail _ (.tail _ (.head _)))) (u4 (3, 7, 1000) (.tail _ (.tail _ (.tail _ (.tail _ (.tail _ (.tail _ (.head _))))))))
    have d101 := df 10 1 (.inr rfl) (u4 (8, 4, -1000) (.tail _ (.tail _ (.tail _ (.head _))))) (u4 (4, 8, 1000) (.tail _ (.tail _ (.tail _ (.tail _ (.tail _ (.tail _ (.tail _ (.head _)))))))))
    have x2 : ∀ j, j < 2 → mGet w1 9 j = mGet ws 9 (2 + j) - 1000 → mGet w1 10 j = mGet ws 10 (2 + j) - 1000 → mX2 w1 j := by
      intro j hj e9 e10
      have yj := hY.2.2 (2 + j) (by omega) (by omega)
      obtain ⟨⟨z1, z2⟩, ⟨z3, z4⟩, z5⟩ := yj
      unfold mX2
      rw [e9, e10]
      intro hlt
      refine ⟨by omega, by omega, ?_⟩
      rw [m_shr (g := mGet ws 11) _ _ _ (fun i h1 h2 => q2 i (by omega))]
      have := z5 (by omega)
      rw [show (mGet ws 10 (2 + j) - 1000 - (mGet ws 9 (2 + j) - 1000)).toNat = (mGet ws 10 (2 + j) - mGet ws 9 (2 + j)).toNat by omega, show 1000 + (mGet ws 9 (2 + j) - 1000).toNat = (mGet ws 9 (2 + j)).toNat by omega]
      exact this
    refine ⟨q1, ⟨fun j hj => ?_, fun r' hr' k hk => ?_⟩, q3, _, .head _, u1, fun q hq => (by cases hq), fun q hq => (by cases hq), fun q hq => (by cases hq), fun q hq => (by cases hq)⟩
    · have : j = 0 ∨ j = 1 := by omega
      rcases this with rfl | rfl
      · exact x2 0 hj d90 d100
      · exact x2 1 hj d91 d101
    · rw [m_K1 hp.1 q1 q3 (by decide +kernel) (k := r') (n := 24) (by simp [qmod, mn_9, xL2])] at hk
      rw [m_K1 hp.1 q1 q3 (by decide +kernel) (n := 26) (by simp [qmod, mn_9, xL2])]
      exact hY.1.2 r' hr' k hk

/-! readsLine keeps what must hold -/
theorem x_lc {L : Nat} (h : L < 40) : xLchk L = true := by
  match L, h with
  | 0, _ => exact x_l0
  | 1, _ => exact x_l1
  | 2, _ => exact x_l2
  | 3, _ => exact x_l3
  | 4, _ => exact x_l4
  | 5, _ => exact x_l5
  | 6, _ => exact x_l6
  | 7, _ => exact x_l7
  | 8, _ => exact x_l8
  | 9, _ => exact x_l9
  | 10, _ => exact x_l10
  | 11, _ => exact x_l11
  | 12, _ => exact x_l12
  | 13, _ => exact x_l13
  | 14, _ => exact x_l14
  | 15, _ => exact x_l15
  | 16, _ => exact x_l16
  | 17, _ => exact x_l17
  | 18, _ => exact x_l18
  | 19, _ => exact x_l19
  | 20, _ => exact x_l20
  | 21, _ => exact x_l21
  | 22, _ => exact x_l22
  | 23, _ => exact x_l23
  | 24, _ => exact x_l24
  | 25, _ => exact x_l25
  | 26, _ => exact x_l26
  | 27, _ => exact x_l27
  | 28, _ => exact x_l28
  | 29, _ => exact x_l29
  | 30, _ => exact x_l30
  | 31, _ => exact x_l31
  | 32, _ => exact x_l32
  | 33, _ => exact x_l33
  | 34, _ => exact x_l34
  | 35, _ => exact x_l35
  | 36, _ => exact x_l36
  | 37, _ => exact x_l37
  | 38, _ => exact x_l38
  | 39, _ => exact x_l39
  | n + 40, h => exact absurd h (by omega)
theorem m_lineX {γ : kΓ} {adr : List Nat} {ws w1 : va_W} {L : Nat} (hL : L < 40) (h0 : qH mD γ adr (fun _ _ => False) ws) (h1 : qH mD γ adr (fun _ _ => False) w1) (hK : qK mD (xLine L).2.2.2.2.2 ws w1) (hgL : mGet ws 24 5 = (L : Int)) (hx : mX ws) (hc : mGet w1 24 5 = (L : Int) ∨ (mGet w1 24 5 = (L : Int) + 1 ∧ 0 ≤ mGet w1 26 (200 + L))) : mX w1 := by
  have hm : ∀ g k, (g = 24 ∧ k ≠ 5) ∨ (g = 26 ∧ k ≠ 200 + L) ∨ g = 9 ∨ g = 10 ∨ g = 11 → qmod (xLine L).2.2.2.2.2 g k = false := by
    intro g k h
    show qmod [(0, 4, 9), (0, 34, 34), (24, 5, 5), (25, 200 + L, 200 + L), (26, 200 + L, 200 + L), (27, 200 + L, 200 + L)] g k = false
    unfold qmod
    rw [List.any_eq_false]
    intro m hm hc
    simp only [List.mem_cons, List.mem_nil_iff, or_false] at hm
    simp only [Bool.and_eq_true, beq_iff_eq, Nat.ble_eq] at hc
    rcases hm with rfl | rfl | rfl | rfl | rfl | rfl <;> simp only at hc <;> omega
  refine ⟨fun j hj => m_X2k h0 h1 hK (fun j _ => hm _ _ (by omega)) (fun j _ => hm _ _ (by omega)) (fun j _ => hm _ _ (by omega)) hj (hx.1 j hj), fun r hr k hk => ?_⟩
  by_cases h5 : r = 5
  · subst h5
    by_cases hkL : k = L
    · subst hkL
      rcases hc with hc | ⟨_, hc⟩
      · rw [hc] at hk; omega
      · exact hc
    · have hk' : (k : Int) < mGet ws 24 5 := by
        rw [hgL]
        rcases hc with hc | ⟨hc, _⟩ <;> rw [hc] at hk <;> omega
      rw [m_K1 h0 h1 hK (by decide +kernel) (hm 26 (40 * 5 + k) (by omega))]
      exact hx.2 5 hr k hk'
  · rw [m_K1 h0 h1 hK (by decide +kernel) (hm 24 r (by omega))] at hk
    obtain ⟨x, x1, x2, x3⟩ := m_ln h0 hr
    have e2 : mGet ws 24 r = x.toInt := m_gv x1
    rw [m_K1 h0 h1 hK (by decide +kernel) (hm 26 (40 * r + k) (by omega))]
    exact hx.2 r hr k hk
theorem m_line (γ : kΓ) (l : Launch) : qSem γ l mD mX mMT mn_515 := by
  have hs : ∀ L, L < 40 → qSem γ l mD (fun _ => True) mMT (xLine L) := fun L hL => q_sem (xr := []) (tb := mtb_RX12) (B := [mn_11, mn_13, mn_14, mn_16, mn_18, mn_19, mn_22, mn_466, mn_467, mn_514]) (rk := 2) (T := pg_X12_readsLine) (sps := []) (cuts := []) (fu := 1500) (y := (yX12_readsLine, cX12_readsLine, 3, some .boolean)) mDok rfl (by decide) (.inr (.inr (.inl ⟨rfl, rfl⟩))) (fun _ _ _ _ _ _ _ _ _ _ _ => trivial) mtk_RX12 (q_f1 (ms_11 γ l) (q_f1 (ms_13 γ l) (q_f1 (ms_14 γ l) (q_f1 (ms_16 γ l) (q_f1 (ms_18 γ l) (q_f1 (ms_19 γ l) (q_f1 (ms_22 γ l) (q_f1 (ms_466 γ l) (q_f1 (ms_467 γ l) (q_f1 (ms_514 γ l) q_f0)))))))))) pk_X12_readsLine (x_lc hL)
  have hs40 : qSem γ l mD mX mMT xLine40 := m_up rfl (q_sem (xr := []) (tb := mtb_RX12) (B := [mn_11, mn_13, mn_14, mn_16, mn_18, mn_19, mn_22, mn_466, mn_467, mn_514]) (rk := 2) (T := pg_X12_readsLine) (sps := []) (cuts := []) (fu := 1500) (y := (yX12_readsLine, cX12_readsLine, 3, some .boolean)) mDok rfl (by decide) (.inr (.inr (.inl ⟨rfl, rfl⟩))) (fun _ _ _ _ _ _ _ _ _ _ _ => trivial) mtk_RX12 (q_f1 (ms_11 γ l) (q_f1 (ms_13 γ l) (q_f1 (ms_14 γ l) (q_f1 (ms_16 γ l) (q_f1 (ms_18 γ l) (q_f1 (ms_19 γ l) (q_f1 (ms_22 γ l) (q_f1 (ms_466 γ l) (q_f1 (ms_467 γ l) (q_f1 (ms_514 γ l) q_f0)))))))))) pk_X12_readsLine x_l40)
  refine ⟨_, rfl, fun adr ws av hp => ?_⟩
  obtain ⟨x, h1, h2, h3⟩ := m_ln hp.1 (r := 5) (by decide)
  obtain ⟨L, hL⟩ := Int.eq_ofNat_of_zero_le h2
  rw [hL] at h1
  have hgL : mGet ws 24 5 = (L : Int) := m_gv h1
  have pre : ∀ (F : List qFa), F = [(0, 3, 1, 1000), (0, 4, 1, 1000), (0, 5, 0, 999), (0, 6, 1, 4), (24, 5, (L : Int), (L : Int))] → ∀ f ∈ F, ∃ x, qval ws f = some x ∧ qIn f.2.2 x := by
    intro F hF f hf
    subst hF
    rcases List.mem_cons.mp hf with h | hf
    · subst h; exact hp.2.2.2.1 _ (.head _)
    rcases List.mem_cons.mp hf with h | hf
    · subst h; exact hp.2.2.2.1 _ (.tail _ (.head _))
    rcases List.mem_cons.mp hf with h | hf
    · subst h; exact hp.2.2.2.1 _ (.tail _ (.tail _ (.head _)))
    rcases List.mem_cons.mp hf with h | hf
    · subst h; exact hp.2.2.2.1 _ (.tail _ (.tail _ (.tail _ (.head _))))
    have hf := List.mem_singleton.mp hf
    subst hf
    exact ⟨_, h1, Int.le_refl _, Int.le_refl _⟩
  by_cases h40 : L = 40
  · subst h40
    obtain ⟨y, hy, hM⟩ := hs40
    cases hy
    refine k_imp (hM adr ws av ⟨hp.1, hp.2.1, hp.2.2.1, pre _ rfl, fun f hf => ?_⟩) (fun r w1 hq => ?_)
    · rcases List.mem_cons.mp hf with h | hf
      · subst h; exact hp.2.2.2.2 _ (.head _)
      have hf := List.mem_singleton.mp hf
      subst hf
      exact hp.2.2.2.2 _ (.tail _ (.head _))
    · obtain ⟨q1, q2, q3, t, t1, t2⟩ := hq
      have t1 := List.mem_singleton.mp t1
      subst t1
      exact ⟨q1, q2, fun q g a c a' c' hg e0 e1 k hk => q3 q g a c a' c' hg e0 e1 k (q_cov (by decide) hk), _, .head _, t2.1, fun q hq => (by cases hq), fun q hq => (by cases hq), fun q hq => (by cases hq), fun q hq => (by cases hq)⟩
  · have hL40 : L < 40 := by omega
    obtain ⟨y, hy, hM⟩ := hs L hL40
    cases hy
    refine k_imp (hM adr ws av ⟨hp.1, trivial, hp.2.2.1, pre _ rfl, fun f hf => ?_⟩) (fun r w1 hq => ?_)
    · rcases List.mem_cons.mp hf with h | hf
      · subst h; exact hp.2.2.2.2 _ (.head _)
      have hf := List.mem_singleton.mp hf
      subst hf
      exact hp.2.2.2.2 _ (.tail _ (.head _))
    · obtain ⟨q1, q2, q3, t, t1, t2⟩ := hq
      have hK : qK mD mn_515.2.2.2.2.2 ws w1 := fun q g a c a' c' hg e0 e1 k hk => q3 q g a c a' c' hg e0 e1 k (q_cov (by
        have b1 : Nat.ble 200 (200 + L) = true := Nat.ble_eq_true_of_le (by omega)
        have b2 : Nat.ble (200 + L) 239 = true := Nat.ble_eq_true_of_le (by omega)
        show qcov [(0, 4, 9), (0, 34, 34), (24, 5, 5), (25, 200 + L, 200 + L), (26, 200 + L, 200 + L), (27, 200 + L, 200 + L)] [(0, 4, 9), (0, 34, 34), (24, 5, 5), (25, 200, 239), (26, 200, 239), (27, 200, 239)] = true
        simp [qcov, b1, b2]) hk)
      have fact : ∀ (v : Int) , (∃ x, qval w1 (24, 5, v, v) = some x ∧ qIn (v, v) x) → mGet w1 24 5 = v := fun v ⟨x, x1, x2⟩ => by
        have x2 : v ≤ x ∧ x ≤ v := x2
        rw [m_gv (x := x) x1]; omega
      have fact2 : (∃ x, qval w1 (26, 200 + L, 0, 4) = some x ∧ qIn (0, 4) x) → 0 ≤ mGet w1 26 (200 + L) := fun ⟨x, x1, x2⟩ => by
        have x2 : 0 ≤ x ∧ x ≤ 4 := x2
        rw [m_gv (x := x) x1]; exact x2.1
      have hXB := m_lineX hL40 hp.1 q1 q3 hgL hp.2.1
      rcases List.mem_cons.mp t1 with h | t1
      · subst h
        exact ⟨q1, hXB (.inl (fact _ (t2.2.1 _ (.head _)))), hK, _, .head _, t2.1, fun q hq => (by cases hq), fun q hq => (by cases hq), fun q hq => (by cases hq), fun q hq => (by cases hq)⟩
      rcases List.mem_cons.mp t1 with h | t1
      · subst h
        exact ⟨q1, hXB (.inr ⟨fact _ (t2.2.1 _ (.head _)), fact2 (t2.2.1 _ (.tail _ (.head _)))⟩), hK, _, .head _, t2.1, fun q hq => (by cases hq), fun q hq => (by cases hq), fun q hq => (by cases hq), fun q hq => (by cases hq)⟩
      rcases List.mem_cons.mp t1 with h | t1
      · subst h
        refine ⟨q1, hXB (.inr ⟨fact _ (t2.2.1 _ (.tail _ (.tail _ (.tail _ (.tail _ (.head _)))))), fact2 (t2.2.1 _ (.tail _ (.tail _ (.tail _ (.tail _ (.tail _ (.head _)))))))⟩), hK, _, .tail _ (.head _), t2.1, fun q hq => ?_, fun q hq => (by cases hq), fun q hq => ?_, fun q hq => (by cases hq)⟩
        · rcases List.mem_cons.mp hq with h | hq
          · subst h; exact t2.2.1 _ (.head _)
          rcases List.mem_cons.mp hq with h | hq
          · subst h; exact t2.2.1 _ (.tail _ (.head _))
          rcases List.mem_cons.mp hq with h | hq
          · subst h; exact t2.2.1 _ (.tail _ (.tail _ (.head _)))
          have hq := List.mem_singleton.mp hq
          subst hq
          exact t2.2.1 _ (.tail _ (.tail _ (.tail _ (.head _))))
        · rcases List.mem_cons.mp hq with h | hq
          · subst h; exact t2.2.2.2.1 _ (.head _)
          rcases List.mem_cons.mp hq with h | hq
          · subst h; exact t2.2.2.2.1 _ (.tail _ (.head _))
          rcases List.mem_cons.mp hq with h | hq
          · subst h; exact t2.2.2.2.1 _ (.tail _ (.tail _ (.head _)))
          rcases List.mem_cons.mp hq with h | hq
          · subst h; exact t2.2.2.2.1 _ (.tail _ (.tail _ (.tail _ (.head _))))
          rcases List.mem_cons.mp hq with h | hq
          · subst h; exact t2.2.2.2.1 _ (.tail _ (.tail _ (.tail _ (.tail _ (.head _)))))
          have hq := List.mem_singleton.mp hq
          subst hq
          exact t2.2.2.2.1 _ (.tail _ (.tail _ (.tail _ (.tail _ (.tail _ (.head _))))))
      · have h := List.mem_singleton.mp t1
        subst h
        refine ⟨q1, hXB (.inr ⟨fact _ (t2.2.1 _ (.tail _ (.tail _ (.tail _ (.tail _ (.head _)))))), fact2 (t2.2.1 _ (.tail _ (.tail _ (.tail _ (.tail _ (.tail _ (.head _)))))))⟩), hK, _, .tail _ (.tail _ (.head _)), t2.1, fun q hq => ?_, fun q hq => (by cases hq), fun q hq => ?_, fun q hq => (by cases hq)⟩
        · rcases List.mem_cons.mp hq with h | hq
          · subst h; exact t2.2.1 _ (.head _)
          rcases List.mem_cons.mp hq with h | hq
          · subst h; exact t2.2.1 _ (.tail _ (.head _))
          rcases List.mem_cons.mp hq with h | hq
          · subst h; exact t2.2.1 _ (.tail _ (.tail _ (.head _)))
          have hq := List.mem_singleton.mp hq
          subst hq
          exact t2.2.1 _ (.tail _ (.tail _ (.tail _ (.head _))))
        · rcases List.mem_cons.mp hq with h | hq
          · subst h; exact t2.2.2.2.1 _ (.head _)
          rcases List.mem_cons.mp hq with h | hq
          · subst h; exact t2.2.2.2.1 _ (.tail _ (.head _))
          rcases List.mem_cons.mp hq with h | hq
          · subst h; exact t2.2.2.2.1 _ (.tail _ (.tail _ (.head _)))
          rcases List.mem_cons.mp hq with h | hq
          · subst h; exact t2.2.2.2.1 _ (.tail _ (.tail _ (.tail _ (.head _))))
          rcases List.mem_cons.mp hq with h | hq
          · subst h; exact t2.2.2.2.1 _ (.tail _ (.tail _ (.tail _ (.tail _ (.head _)))))
          have hq := List.mem_singleton.mp hq
          subst hq
          exact t2.2.2.2.1 _ (.tail _ (.tail _ (.tail _ (.tail _ (.tail _ (.head _))))))

/-! laysLines keeps what must hold -/
theorem m_ln {γ : kΓ} {adr : List Nat} {ws : va_W} (hH : qH mD γ adr (fun _ _ => False) ws) {r : Nat} (hr : r < 6) : ∃ x : Int32, qval ws (24, r, 0, 0) = some x.toInt ∧ 0 ≤ x.toInt ∧ x.toInt ≤ 40 := by
  obtain ⟨x, h1, h2⟩ := q_ty hH (n := 24) (g := 24) (k := r) (r := (0, 6, [(6, (0, 0, 40))])) (by decide +kernel) rfl hr (by simp only [qsg]; rw [if_pos hr])
  simp only [qsg] at h2
  rw [if_pos hr] at h2
  exact ⟨x, h1, h2⟩
theorem m_la {γ : kΓ} {adr : List Nat} {ws : va_W} (hH : qH mD γ adr (fun _ _ => False) ws) {i : Nat} (hi : i < 240) : ∃ x : Int32, qval ws (26, i, 0, 0) = some x.toInt ∧ -1 ≤ x.toInt ∧ x.toInt ≤ 4 := by
  obtain ⟨x, h1, h2⟩ := q_ty hH (n := 26) (g := 26) (k := i) (r := (0, 240, [(240, (0, -1, 4))])) (by decide +kernel) rfl hi (by simp only [qsg]; rw [if_pos hi])
  simp only [qsg] at h2
  rw [if_pos hi] at h2
  exact ⟨x, h1, h2⟩
/-- what X2 looks at is as it was -/
theorem m_X2k {γ : kΓ} {adr : List Nat} {ms : qMods} {w0 ws : va_W} (h0 : qH mD γ adr (fun _ _ => False) w0) (h1 : qH mD γ adr (fun _ _ => False) ws) (hK : qK mD ms w0 ws) (e9 : ∀ j, j < 2 → qmod ms 9 j = false) (e10 : ∀ j, j < 2 → qmod ms 10 j = false) (e11 : ∀ i, i < 1000 → qmod ms 11 i = false) {j : Nat} (hj : j < 2) (h : mX2 w0 j) : mX2 ws j := by
  unfold mX2 at h ⊢
  rw [m_K1 h0 h1 hK (by decide +kernel) (e9 j hj), m_K1 h0 h1 hK (by decide +kernel) (e10 j hj)]
  intro hlt
  obtain ⟨x1, x2, x3⟩ := h hlt
  refine ⟨x1, x2, ?_⟩
  rw [m_runc (g := mGet w0 11) _ _ _ (fun i h1' h2' => m_K1 h0 h1 hK (by decide +kernel) (e11 i (by omega)))]
  exact x3
theorem m_lays (γ : kΓ) (l : Launch) {f t : Nat} (hf : f < 6) (ht : t < 6) (hc : xYchk f t = true) : qSem γ l mD mX mMT (yLays f t) := by
  have hs : qSem γ l mD (fun _ => True) mMT (xLays f t) := q_sem (xr := []) (tb := mtb_RX12) (B := []) (rk := 0) (T := pg_X12_laysLines) (sps := []) (cuts := []) (fu := 3000) (y := (yX12_laysLines, cX12_laysLines, 4, none)) mDok rfl (by decide) (.inl ⟨rfl, rfl⟩) (fun _ _ _ _ _ _ _ _ _ _ _ => trivial) mtk_RX12 q_f0 pk_X12_laysLines hc
  refine q_imp hs rfl (fun adr ws av hp => ⟨hp.1, trivial, hp.2.2.1, fun g hg => ?_, fun g hg => (by cases hg)⟩) (fun adr ws av r w1 hp hq => ?_)
  · rcases List.mem_cons.mp hg with h | h
    · subst h
      obtain ⟨x, h1, h2, h3⟩ := m_ln hp.1 hf
      exact ⟨_, h1, h2, h3⟩
    · rw [List.mem_map] at h
      obtain ⟨k, hk, rfl⟩ := h
      rw [List.mem_range] at hk
      obtain ⟨x, h1, h2, h3⟩ := m_la hp.1 (i := 40 * f + k) (by omega)
      exact ⟨_, h1, h2, h3⟩
  · obtain ⟨q1, q2, q3, t', t1, t2⟩ := hq
    have t1 := List.mem_singleton.mp t1
    subst t1
    obtain ⟨u1, u2, u3, u4, u5⟩ := t2
    have hr : r = none := by
      rcases u1 with ⟨_, h⟩ | ⟨_, _, h, _⟩
      · exact h
      · cases h
    have hlen : ((24, f, 0, 40) :: (List.range 40).map (fun k => ((26, 40 * f + k, -1, 4) : qFa))).length = 41 := by simp
    have key : ∀ i, i < 41 → ∀ (a b : qFa), ((24, f, 0, 40) :: (List.range 40).map (fun k => ((26, 40 * f + k, -1, 4) : qFa)))[i]? = some a → ((24, t, 0, 40) :: (List.range 40).map (fun k => ((26, 40 * t + k, -1, 4) : qFa)))[i]? = some b → ∃ x, qval ws a = some x ∧ qval w1 b = some x := by
      intro i hi a b ha hb
      obtain ⟨x, y, e1, e2, e3⟩ := u4 (41 + i, i, 0) (by
        rw [List.mem_flatMap]
        exact ⟨i, List.mem_range.mpr hi, by simp⟩)
      obtain ⟨x', y', e4, e5, e6⟩ := u4 (i, 41 + i, 0) (by
        rw [List.mem_flatMap]
        exact ⟨i, List.mem_range.mpr hi, by simp⟩)
      have g1 : qpv (xLays f t).2.2.1 ((24, t, 0, 40) :: (List.range 40).map (fun k => ((26, 40 * t + k, -1, 4) : qFa))) ws w1 av i = qval ws a := by
        unfold qpv
        have hlen2 : (xLays f t).2.2.1.length = 41 := hlen
        rw [if_pos (by rw [hlen2]; exact hi)]
        show (((24, f, 0, 40) :: (List.range 40).map (fun k => ((26, 40 * f + k, -1, 4) : qFa)))[i]?).bind (qval ws) = _
        rw [ha]; rfl
      have g2 : qpv (xLays f t).2.2.1 ((24, t, 0, 40) :: (List.range 40).map (fun k => ((26, 40 * t + k, -1, 4) : qFa))) ws w1 av (41 + i) = qval w1 b := by
        unfold qpv
        have hlen2 : (xLays f t).2.2.1.length = 41 := hlen
        rw [if_neg (by rw [hlen2]; omega), if_pos (by rw [hlen2]; simp; omega), hlen2, show 41 + i - 41 = i by omega, hb]; rfl
      simp only at e1 e2 e3 e4 e5 e6
      rw [g2] at e1 e5
      rw [g1] at e2 e4
      rw [e1] at e5; cases e5
      rw [e2] at e4; cases e4
      have : x = y := by omega
      subst this
      exact ⟨x, e2, e1⟩
    have hE0 : mGet w1 24 t = mGet ws 24 f := by
      obtain ⟨x, h1, h2⟩ := key 0 (by decide) _ _ rfl rfl
      rw [m_gv (x := x) h1, m_gv (x := x) h2]
    have hE : ∀ k, k < 40 → mGet w1 26 (40 * t + k) = mGet ws 26 (40 * f + k) := by
      intro k hk
      obtain ⟨x, h1, h2⟩ := key (k + 1) (by omega) (26, 40 * f + k, -1, 4) (26, 40 * t + k, -1, 4) (by simp [hk]) (by simp [hk])
      rw [m_gv (x := x) h1, m_gv (x := x) h2]
    refine ⟨q1, ⟨fun j hj => m_X2k hp.1 q1 q3 (fun j _ => by simp [qmod, xLays]) (fun j _ => by simp [qmod, xLays]) (fun j _ => by simp [qmod, xLays]) hj (hp.2.1.1 j hj), fun r' hr' k hk => ?_⟩, q3, _, .head _, .inl ⟨rfl, hr⟩, fun q hq => (by cases hq), fun q hq => (by cases hq), fun q hq => (by cases hq), fun q hq => (by cases hq)⟩
    by_cases h9 : r' = t
    · subst h9
      rw [hE0] at hk
      obtain ⟨x, h1, h2, h3⟩ := m_ln hp.1 hf
      have : mGet ws 24 f = x.toInt := m_gv h1
      rw [hE k (by omega)]
      exact hp.2.1.2 f hf k hk
    · have e1 : mGet w1 24 r' = mGet ws 24 r' := m_K1 hp.1 q1 q3 (by decide +kernel) (by
        show qmod [(24, t, t), (25, 40 * t, 40 * t + 39), (26, 40 * t, 40 * t + 39), (27, 40 * t, 40 * t + 39)] 24 r' = false
        unfold qmod
        rw [List.any_eq_false]
        intro m hm hc
        simp only [List.mem_cons, List.mem_nil_iff, or_false] at hm
        simp only [Bool.and_eq_true, beq_iff_eq, Nat.ble_eq] at hc
        rcases hm with rfl | rfl | rfl | rfl <;> simp at hc <;> omega)
      rw [e1] at hk
      obtain ⟨x, h1, h2, h3⟩ := m_ln hp.1 hr'
      have e2 : mGet ws 24 r' = x.toInt := m_gv h1
      rw [m_K1 hp.1 q1 q3 (by decide +kernel) (k := 40 * r' + k) (by
        show qmod [(24, t, t), (25, 40 * t, 40 * t + 39), (26, 40 * t, 40 * t + 39), (27, 40 * t, 40 * t + 39)] 26 (40 * r' + k) = false
        unfold qmod
        rw [List.any_eq_false]
        intro m hm hc
        simp only [List.mem_cons, List.mem_nil_iff, or_false] at hm
        simp only [Bool.and_eq_true, beq_iff_eq, Nat.ble_eq] at hc
        rcases hm with rfl | rfl | rfl | rfl <;> simp at hc <;> omega)]
      exact hp.2.1.2 r' hr' k hk
theorem mx_445 (γ : kΓ) (l : Launch) : qSem γ l mD mX mMT mn_445 := m_lays γ l (f := 5) (t := 0) (by decide) (by decide) x_y50
theorem mx_437 (γ : kΓ) (l : Launch) : qSem γ l mD mX mMT mn_437 := m_lays γ l (f := 0) (t := 1) (by decide) (by decide) x_y01
theorem mx_438 (γ : kΓ) (l : Launch) : qSem γ l mD mX mMT mn_438 := m_lays γ l (f := 0) (t := 2) (by decide) (by decide) x_y02
theorem mx_439 (γ : kΓ) (l : Launch) : qSem γ l mD mX mMT mn_439 := m_lays γ l (f := 0) (t := 3) (by decide) (by decide) x_y03
theorem mx_440 (γ : kΓ) (l : Launch) : qSem γ l mD mX mMT mn_440 := m_lays γ l (f := 0) (t := 4) (by decide) (by decide) x_y04
theorem mx_441 (γ : kΓ) (l : Launch) : qSem γ l mD mX mMT mn_441 := m_lays γ l (f := 1) (t := 0) (by decide) (by decide) x_y10
theorem mx_442 (γ : kΓ) (l : Launch) : qSem γ l mD mX mMT mn_442 := m_lays γ l (f := 2) (t := 0) (by decide) (by decide) x_y20
theorem mx_443 (γ : kΓ) (l : Launch) : qSem γ l mD mX mMT mn_443 := m_lays γ l (f := 3) (t := 0) (by decide) (by decide) x_y30
theorem mx_444 (γ : kΓ) (l : Launch) : qSem γ l mD mX mMT mn_444 := m_lays γ l (f := 4) (t := 0) (by decide) (by decide) x_y40

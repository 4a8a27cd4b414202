/-! years -/
theorem m_ln0 {γ : kΓ} {adr : List Nat} {ms : qMods} {ws w1 : va_W} (r0 : Nat) (h0 : qH mD γ adr (fun _ _ => False) ws) (h1 : qH mD γ adr (fun _ _ => False) w1) (hK : qK mD ms ws w1) (e9 : ∀ j, j < 2 → qmod ms 9 j = false) (e10 : ∀ j, j < 2 → qmod ms 10 j = false) (e11 : ∀ i, i < 1000 → qmod ms 11 i = false) (e24 : ∀ r, r < 6 → r ≠ r0 → qmod ms 24 r = false) (e26 : ∀ i, i < 240 → qmod ms 26 i = false) (hz : mGet w1 24 r0 = 0) (hx : mX ws) : mX w1 := by
  refine ⟨fun j hj => m_X2k h0 h1 hK e9 e10 e11 hj (hx.1 j hj), fun r hr k hk => ?_⟩
  by_cases h5 : r = r0
  · subst h5
    rw [hz] at hk
    omega
  · rw [m_K1 h0 h1 hK (by decide +kernel) (e24 r hr h5)] at hk
    obtain ⟨x, x1, x2, x3⟩ := m_ln h0 hr
    have e2 : mGet ws 24 r = x.toInt := m_gv x1
    rw [m_K1 h0 h1 hK (by decide +kernel) (e26 (40 * r + k) (by omega))]
    exact hx.2 r hr k hk
def yE : AS := (([], [], []), ([(0, (3, 0, 0))], []), ([], [], []))
def yS : AS := (([], [], []), ([(0, (3, 0, 0))], []), ([], [(24, 5, (1, 0, 0)), (0, 36, (3, 24, 0)), (0, 0, (1, 0, 0))], []))
def yM1 : qMods := [(0, 0, 0), (24, 5, 5)]
theorem y_c1 : qrun mD yM1 [] mtb_RX12 mMT [] 0 0 1 1 (qNo yM1) [] [] pg_X12_years [] [] (qgo mD yM1 [] mtb_RX12 mMT [] 0 0 1 1 (qNo yM1) [] [] pg_X12_years [] [] 0 [] [(12, yS, (0, []))] 0 none 50) yE 0 = true := by decide +kernel
def yCu : List qCut := [(16, (([(1, 4), (0, 999), (1, 1000), (1, 1000)], [(2, 1, 1), (3, 1, 1), (3, 2, 0)], []), ([(0, (3, 0, 0))], []), ([], [(0, 1, (1, 0, 0)), (0, 6, (0, 0, 0)), (0, 5, (0, 1, 0)), (0, 4, (0, 2, 0)), (0, 3, (0, 3, 0)), (0, 36, (3, 24, 0)), (0, 0, (1, 0, 0))], [])), (1001, [((-1), 2)])), (16, (([(0, 1000), (0, 1000), (0, 1000)], [(1, 0, 0), (2, 0, 0), (2, 1, 0)], []), ([(0, (3, 0, 0))], []), ([], [(0, 1, (1, 0, 0)), (0, 6, (1, 0, 0)), (0, 5, (0, 0, 0)), (0, 4, (0, 1, 0)), (0, 3, (0, 2, 0)), (0, 36, (3, 24, 0)), (0, 0, (1, 0, 0))], [])), (0, []))]
theorem y_go : qgo mD mn_528.2.2.2.2.2 mXr mtb_RX12 mMT [mn_12, mn_445, mn_515] 4 84 1 1 mn_528 [(3, 0, 0)] [] pg_X12_years [] [] 0 [] yCu 0 none 900 yS 12 = true := by decide +kernel
theorem y_sg : qsegs mD mn_528.2.2.2.2.2 mXr mtb_RX12 mMT [mn_12, mn_445, mn_515] 4 84 1 1 mn_528 [(3, 0, 0)] [] pg_X12_years [] [] 0 [] yCu 900 = true := by decide +kernel
theorem mx_528 (γ : kΓ) (l : Launch) : qSem γ l mD mX mMT mn_528 := by
  have hcon : ∀ c ∈ [mn_12, mn_445, mn_515], qSem γ l mD mX mMT c := (q_f1 (m_up rfl (ms_12 γ l)) (q_f1 (mx_445 γ l) (q_f1 (m_line γ l) q_f0)))
  refine ⟨_, rfl, fun adr ws av hp => ?_⟩
  obtain ⟨p1, p2, p3, p4, p5⟩ := hp
  match av, p3 with
  | [v0], ⟨hv0, _⟩ =>
    obtain ⟨a0, rfl, ha0⟩ := hv0.2.2 rfl
    have ha : adr[0]? = some a0 := by
      rcases ha0 with ⟨h1, -⟩ | ⟨q, h1, h2⟩
      · exact absurd h1 (by decide)
      · have := (q_Dok mDok).2.2.1 q 0 h1 (by decide)
        rw [← this]; exact h2
    refine k_ofW (by decide) (by show 1 ≤ _; decide) ?_
    intro p e s m below meth cd A ls hC hr hlocks hname hw hl
    refine q_seg (c := qNo yM1) (w0 := ws) (av := []) (X := fun _ => True) (σ := qsl []) (ρ := qr0 mD adr) (lv := lv_args 0 [Value.ref a0]) hC (q_Dok mDok) rfl (fun _ _ _ _ _ _ _ _ _ _ => trivial) mtk_RX12 q_f0 ⟨Nat.zero_le _, Nat.zero_le _⟩ pk_X12_years q_noE q_noR y_c1 ?_ hw hl (q_Nof trivial (fun a b d h => by cases h)) ?_ (q_Mof p1 (fun n k av h => by cases h)) trivial q_K0
    · intro k hk
      rw [List.mem_singleton] at hk
      subst hk
      intro σ2 ρ2 lv2 st2 ls2 ws2 H2 locs2 hw2 hl2 hN2 hF2 hM2 hx2 hK2 hσ
      have hH2 := q_H00 hM2 (r := [])
      obtain ⟨z, z1, z2⟩ := q_gvM hM2 hw2.2.1.1 (n := 24) (k := 5) (av := (1, 0, 0)) (by decide) (by decide) rfl (.head _)
      have z2 : (0 : Int) = z := Option.some.inj z2
      subst z2
      have hX : mX ws2 := m_ln0 5 p1 hH2 hK2 (fun j _ => by simp [qmod, yM1, qNo]) (fun j _ => by simp [qmod, yM1, qNo]) (fun j _ => by simp [qmod, yM1, qNo]) (fun r _ h => by
        show qmod [(0, 0, 0), (24, 5, 5)] 24 r = false
        unfold qmod
        rw [List.any_eq_false]
        intro m hm hc
        simp only [List.mem_cons, List.mem_nil_iff, or_false] at hm
        simp only [Bool.and_eq_true, beq_iff_eq, Nat.ble_eq] at hc
        rcases hm with rfl | rfl <;> simp only at hc <;> omega) (fun j _ => by simp [qmod, yM1, qNo]) (m_gv z1) p2
      exact q_mid (c := mn_528) (ea := [(3, 0, 0)]) (pa := []) (n0 := 0) (σ := σ2) (ρ := ρ2) (av := [.ref a0]) (w0 := ws) hC (q_Dok mDok) rfl (m_xok adr) mtk_RX12 hcon ⟨Nat.le_refl _, Nat.le_refl _⟩ pk_X12_years ⟨fun i a h1 h2 => by
        match i, h1 with
        | 0, h1 => cases h1; omega, trivial⟩ (fun σ => q_rt hC hlocks hr (.inr (.inl ⟨rfl, rfl⟩)) σ) rfl y_go y_sg hw2 hl2 hN2 hF2 hM2 hX (fun q g a c a' c' hg e0 e1 k hk => hK2 q g a c a' c' hg e0 e1 k (q_cov (by decide) hk))
    · refine ⟨⟨⟨rfl, .inr (.inr (.inr ⟨rfl, a0, rfl, ?_⟩))⟩, trivial⟩, trivial⟩
      show qr0 mD adr 0 = some a0
      unfold qr0
      rw [if_pos (by decide)]
      exact ha

/-! readsAll: an abbey is read -/
theorem m_y0 {γ : kΓ} {adr : List Nat} {ms : qMods} {w w1 : va_W} (h0 : qH mD γ adr (fun _ _ => False) w) (h1 : qH mD γ adr (fun _ _ => False) w1) (hK : qK mD ms w w1) (e9 : ∀ j, j < 2 → qmod ms 9 j = false) (e10 : ∀ j, j < 2 → qmod ms 10 j = false) (e11 : ∀ i, i < 1000 → qmod ms 11 i = false) (e24 : ∀ r, r < 6 → qmod ms 24 r = false) (e26 : ∀ i, i < 240 → qmod ms 26 i = false) (hc : mGet w1 0 20 = 1000) (hf : ∀ j, 2 ≤ j → j < 4 → mGet w1 9 j = 1000 ∧ mGet w1 10 j = 1000) (hx : mX w) : mY w1 := by
  refine ⟨⟨fun j hj => m_X2k h0 h1 hK e9 e10 e11 hj (hx.1 j hj), fun r hr k hk => ?_⟩, by rw [hc]; decide, fun j h2 h4 => ?_⟩
  · rw [m_K1 h0 h1 hK (by decide +kernel) (e24 r hr)] at hk
    obtain ⟨x, x1, x2, x3⟩ := m_ln h0 hr
    have e2 : mGet w 24 r = x.toInt := m_gv x1
    rw [m_K1 h0 h1 hK (by decide +kernel) (e26 (40 * r + k) (by omega))]
    exact hx.2 r hr k hk
  · obtain ⟨a1, a2⟩ := hf j h2 h4
    unfold mY2
    rw [a1, a2, hc]
    exact ⟨⟨by decide, by decide⟩, ⟨by decide, by decide⟩, fun h => absurd h (by decide)⟩
def aS : AS := (([], [], []), ([(1, (1, 0, 4)), (0, (3, 0, 0))], []), ([], [(0, 20, (1, 0, 1000)), (0, 21, (1, 0, 0)), (10, 3, (1, 0, 1000)), (9, 3, (1, 0, 1000)), (10, 2, (1, 0, 1000)), (9, 2, (1, 0, 1000)), (2, 7, (1, 0, 10))], []))
def aM1 : qMods := [(0, 20, 21), (2, 5, 9), (9, 2, 3), (10, 2, 3)]
theorem a_c1 : qrun mD aM1 [] mtb_RX12 mMT [mn_57] 5 109 2 2 (qNo aM1) [] [] pg_X12_readsAll [] [] (qgo mD aM1 [] mtb_RX12 mMT [mn_57] 5 109 2 2 (qNo aM1) [] [] pg_X12_readsAll [] [] 0 [] [(48, aS, (0, []))] 0 none 200) yE 0 = true := by decide +kernel
def aCu : List qCut := [(52, (([(1, 4), (1, 4), (0, 999), (1, 1000), (1, 1000), (1000, 1999), (2, 12)], [(2, 5, (-1000)), (3, 2, 1), (3, 5, (-1000)), (4, 2, 1), (4, 3, 0)], []), ([(1, (0, 0, 0)), (0, (3, 0, 0))], []), ([], [(0, 1, (1, 0, 0)), (0, 6, (0, 1, 0)), (0, 5, (0, 2, 0)), (0, 4, (0, 3, 0)), (0, 3, (0, 4, 0)), (0, 20, (0, 5, 0)), (2, 7, (0, 6, 0))], [])), (1001, [((-1), 3)])), (52, (([(1, 4), (0, 1000), (0, 1000), (0, 1000), (1000, 2000), (2, 12)], [(1, 4, (-1000)), (2, 1, 0), (2, 4, (-1000)), (3, 1, 0), (3, 2, 0)], []), ([(1, (0, 0, 0)), (0, (3, 0, 0))], []), ([], [(0, 1, (1, 0, 0)), (0, 6, (1, 0, 0)), (0, 5, (0, 1, 0)), (0, 4, (0, 2, 0)), (0, 3, (0, 3, 0)), (0, 20, (0, 4, 0)), (2, 7, (0, 5, 0))], [])), (0, []))]
theorem a_go : qgo mD mn_58.2.2.2.2.2 (0 :: mXr) mtb_RX12 mMT [mn_12, mn_13, mn_14, mn_24, mn_31, mn_32, mn_36, mn_40, mn_44, mn_48, mn_56] 5 109 2 2 mn_58 [(3, 0, 0)] [] pg_X12_readsAll [] [] 0 [] aCu 0 none 900 aS 48 = true := by decide +kernel
theorem a_sg : qsegs mD mn_58.2.2.2.2.2 (0 :: mXr) mtb_RX12 mMT [mn_12, mn_13, mn_14, mn_24, mn_31, mn_32, mn_36, mn_40, mn_44, mn_48, mn_56] 5 109 2 2 mn_58 [(3, 0, 0)] [] pg_X12_readsAll [] [] 0 [] aCu 900 = true := by decide +kernel
theorem my_58 (γ : kΓ) (l : Launch) : qSem2 γ l mD mX (fun _ => mY) mMT mn_58 := by
  have hcon : ∀ c ∈ [mn_12, mn_13, mn_14, mn_24, mn_31, mn_32, mn_36, mn_40, mn_44, mn_48, mn_56], qSem γ l mD mY mMT c := (q_f1 (m_upY rfl (ms_12 γ l)) (q_f1 (m_upY rfl (ms_13 γ l)) (q_f1 (m_upY rfl (ms_14 γ l)) (q_f1 (m_upY rfl (ms_24 γ l)) (q_f1 (my_31 γ l) (q_f1 (my_32 γ l) (q_f1 (m_upY rfl (ms_36 γ l)) (q_f1 (m_upY rfl (ms_40 γ l)) (q_f1 (m_upY rfl (ms_44 γ l)) (q_f1 (m_upY rfl (ms_48 γ l)) (q_f1 (m_upY rfl (ms_56 γ l)) q_f0)))))))))))
  refine ⟨_, rfl, fun adr ws av hp => ?_⟩
  obtain ⟨p1, p2, p3, p4, p5⟩ := hp
  match av, p3 with
  | [v0], ⟨hv0, _⟩ =>
    obtain ⟨a0, rfl, ha0⟩ := hv0.2.2 rfl
    have ha : adr[0]? = some a0 := by
      rcases ha0 with ⟨h1, -⟩ | ⟨q, h1, h2⟩
      · exact absurd h1 (by decide)
      · have := (q_Dok mDok).2.2.1 q 0 h1 (by decide)
        rw [← this]; exact h2
    refine k_ofW (by decide) (by show 1 ≤ _; decide) ?_
    intro p e s m below meth cd A ls hC hr hlocks hname hw hl
    refine q_seg (c := qNo aM1) (B := [mn_57]) (fr := 5) (lc := 109) (w0 := ws) (av := []) (X := fun _ => True) (σ := qsl []) (ρ := qr0 mD adr) (lv := lv_args 0 [Value.ref a0]) hC (q_Dok mDok) rfl (fun _ _ _ _ _ _ _ _ _ _ => trivial) mtk_RX12 (q_f1 (ms_57 γ l) q_f0) ⟨Nat.le_refl _, Nat.le_refl _⟩ pk_X12_readsAll q_noE q_noR a_c1 ?_ hw hl (q_Nof trivial (fun a b d h => by cases h)) ?_ (q_Mof p1 (fun n k av h => by cases h)) trivial q_K0
    · intro k hk
      rw [List.mem_singleton] at hk
      subst hk
      intro σ2 ρ2 lv2 st2 ls2 ws2 H2 locs2 hw2 hl2 hN2 hF2 hM2 hx2 hK2 hσ
      have hH2 := q_H00 hM2 (r := [])
      have lit : ∀ (n k : Nat) (v : Int), n < mD.2.2 → k < 10000 → (n, k, ((1, 0, v) : AV)) ∈ aS.2.2.2.1 → mGet ws2 n k = v := fun n k v hn hk hm => by
        obtain ⟨z, z1, z2⟩ := q_gvM hM2 hw2.2.1.1 (n := n) (k := k) (av := (1, 0, v)) hn hk rfl hm
        have z2 : v = z := Option.some.inj z2
        rw [z2]; exact m_gv z1
      have hX : mY ws2 := m_y0 p1 hH2 hK2 (fun j h => by
          have : j = 0 ∨ j = 1 := by omega
          rcases this with rfl | rfl <;> decide) (fun j h => by
          have : j = 0 ∨ j = 1 := by omega
          rcases this with rfl | rfl <;> decide) (fun j _ => by simp [qmod, aM1, qNo]) (fun j _ => by simp [qmod, aM1, qNo]) (fun j _ => by simp [qmod, aM1, qNo]) (lit 0 20 1000 (by decide) (by decide) (by decide)) (fun j h2 h4 => by
          have : j = 2 ∨ j = 3 := by omega
          rcases this with rfl | rfl
          · exact ⟨lit 9 2 1000 (by decide) (by decide) (by decide), lit 10 2 1000 (by decide) (by decide) (by decide)⟩
          · exact ⟨lit 9 3 1000 (by decide) (by decide) (by decide), lit 10 3 1000 (by decide) (by decide) (by decide)⟩) p2
      exact q_mid (B := [mn_12, mn_13, mn_14, mn_24, mn_31, mn_32, mn_36, mn_40, mn_44, mn_48, mn_56]) (fr := 5) (lc := 109) (c := mn_58) (ea := [(3, 0, 0)]) (pa := []) (n0 := 0) (X := mY) (σ := σ2) (ρ := ρ2) (av := [.ref a0]) (w0 := ws) hC (q_Dok mDok) rfl (m_yok adr) mtk_RX12 hcon ⟨Nat.le_refl _, Nat.le_refl _⟩ pk_X12_readsAll ⟨fun i a h1 h2 => by
        match i, h1 with
        | 0, h1 => cases h1; omega, trivial⟩ (fun σ => q_rt hC hlocks hr (.inr (.inr (.inl ⟨rfl, rfl⟩))) σ) rfl a_go a_sg hw2 hl2 hN2 hF2 hM2 hX (fun q g a c a' c' hg e0 e1 k hk => hK2 q g a c a' c' hg e0 e1 k (q_cov (by decide) hk))
    · refine ⟨⟨⟨rfl, .inr (.inr (.inr ⟨rfl, a0, rfl, ?_⟩))⟩, trivial⟩, trivial⟩
      show qr0 mD adr 0 = some a0
      unfold qr0
      rw [if_pos (by decide)]
      exact ha

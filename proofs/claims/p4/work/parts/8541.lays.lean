/-! lays -/
def xL2 : qCon := (mn_9.1, [(2, 0, 0)], [(2, 7, 2, 12), (9, 2, 1000, 2000), (9, 3, 1000, 2000), (10, 2, 1000, 2000), (10, 3, 1000, 2000)], [], [(none, [(9, 0, 0, 1000), (9, 1, 0, 1000), (10, 0, 0, 1000), (10, 1, 0, 1000)], [], [(5, 1, -1000), (6, 2, -1000), (7, 3, -1000), (8, 4, -1000), (1, 5, 1000), (2, 6, 1000), (3, 7, 1000), (4, 8, 1000)], none)], mn_9.2.2.2.2.2)
def vE : AS := (([(2, 12), (1000, 2000), (1000, 2000), (1000, 2000), (1000, 2000)], [], []), ([(0, (3, 0, 0))], []), ([], [(10, 3, (0, 4, 0)), (10, 2, (0, 3, 0)), (9, 3, (0, 2, 0)), (9, 2, (0, 1, 0)), (2, 7, (0, 0, 0))], []))
def vC : AS := (([(2, 12), (1000, 2000), (1000, 2000), (1000, 2000), (1000, 2000)], [], []), ([(0, (3, 0, 0))], [(1, 0, 1000), (3, 11, 0)]), ([], [(10, 3, (0, 4, 0)), (10, 2, (0, 3, 0)), (9, 3, (0, 2, 0)), (9, 2, (0, 1, 0))], []))
def vD : AS := (([(2, 12), (1000, 2000), (1000, 2000), (1000, 2000), (1000, 2000)], [], []), ([(0, (3, 0, 0))], []), ([], [(10, 3, (0, 4, 0)), (10, 2, (0, 3, 0)), (9, 3, (0, 2, 0)), (9, 2, (0, 1, 0))], []))
theorem v_c1 : qrun mD mn_9.2.2.2.2.2 [11] mtb_RX12 mMT [mn_2, mn_3, mn_4, mn_5, mn_6, mn_7, mn_8] 1 22 2 0 (qNo mn_9.2.2.2.2.2) [] [] pg_X12_lays [] [] (qgo mD mn_9.2.2.2.2.2 [11] mtb_RX12 mMT [mn_2, mn_3, mn_4, mn_5, mn_6, mn_7, mn_8] 1 22 2 0 (qNo mn_9.2.2.2.2.2) [] [] pg_X12_lays [] [] 5 [] [(67, vC, (0, []))] 0 none 300) vE 0 = true := by decide +kernel
theorem v_c2 : (match qs_call mD mn_9.2.2.2.2.2 [mn_1] mtb_RX12.2.1 mMT 1 22 false vC 323 67 with
  | some L => (3 : Nat) == 3 && L.all (fun y => ([(70, vD, (0, []))] : List qCut).any (fun k => k.1 == y.2 && qcchk mD 5 [] 0 none y.1 k))
  | none => false) = true := by decide +kernel
theorem v_c3 : qrun mD mn_9.2.2.2.2.2 [11] mtb_RX12 mMT [mn_2, mn_3, mn_4, mn_5, mn_6, mn_7, mn_8] 1 22 2 0 xL2 [(3, 0, 0)] [(0, 0, 0), (0, 1, 0), (0, 2, 0), (0, 3, 0), (0, 4, 0)] pg_X12_lays [] [] (qgo mD mn_9.2.2.2.2.2 [11] mtb_RX12 mMT [mn_2, mn_3, mn_4, mn_5, mn_6, mn_7, mn_8] 1 22 2 0 xL2 [(3, 0, 0)] [(0, 0, 0), (0, 1, 0), (0, 2, 0), (0, 3, 0), (0, 4, 0)] pg_X12_lays [] [] 5 [] [] 0 none 300) vD 70 = true := by decide +kernel
theorem m_lays2 (γ : kΓ) (l : Launch) (c0 : Nat → Int) : qSem2 γ l mD (sX1 c0) (fun _ => sX2 c0) mMT xL2 := by
  have hcon : ∀ c ∈ [mn_2, mn_3, mn_4, mn_5, mn_6, mn_7, mn_8], qSem γ l mD (sX1 c0) mMT c := (q_f1 (q_up s_d1 rfl (ms_2 γ l)) (q_f1 (q_up s_d1 rfl (ms_3 γ l)) (q_f1 (q_up s_d1 rfl (ms_4 γ l)) (q_f1 (q_up s_d1 rfl (ms_5 γ l)) (q_f1 (q_up s_d1 rfl (ms_6 γ l)) (q_f1 (q_up s_d1 rfl (ms_7 γ l)) (q_f1 (q_up s_d1 rfl (ms_8 γ l)) q_f0)))))))
  have hcon2 : ∀ c ∈ [mn_2, mn_3, mn_4, mn_5, mn_6, mn_7, mn_8], qSem γ l mD (sX2 c0) mMT c := (q_f1 (q_up s_d2 rfl (ms_2 γ l)) (q_f1 (q_up s_d2 rfl (ms_3 γ l)) (q_f1 (q_up s_d2 rfl (ms_4 γ l)) (q_f1 (q_up s_d2 rfl (ms_5 γ l)) (q_f1 (q_up s_d2 rfl (ms_6 γ l)) (q_f1 (q_up s_d2 rfl (ms_7 γ l)) (q_f1 (q_up s_d2 rfl (ms_8 γ l)) q_f0)))))))
  refine ⟨_, rfl, fun adr ws av hp => ?_⟩
  obtain ⟨p1, p2, p3, p4, p5⟩ := hp
  match av, p3 with
  | [v0], ⟨hv0, _⟩ =>
    obtain ⟨a0, rfl, ha0⟩ := hv0.2.2 rfl
    have ha : adr[0]? = some a0 := by
      rcases ha0 with ⟨h1, -⟩ | ⟨q, h1, h2⟩
      · exact absurd h1 (by decide)
      · have := (q_Dok mDok).2.2.1 q 0 h1 (by decide)
        rw [← this]; exact h2
    obtain ⟨x0, g0, n0⟩ := p4 (2, 7, 2, 12) (.head _)
    obtain ⟨x1, g1, n1⟩ := p4 (9, 2, 1000, 2000) (.tail _ (.head _))
    obtain ⟨x2, g2, n2⟩ := p4 (9, 3, 1000, 2000) (.tail _ (.tail _ (.head _)))
    obtain ⟨x3, g3, n3⟩ := p4 (10, 2, 1000, 2000) (.tail _ (.tail _ (.tail _ (.head _))))
    obtain ⟨x4, g4, n4⟩ := p4 (10, 3, 1000, 2000) (.tail _ (.tail _ (.tail _ (.tail _ (.head _)))))
    obtain ⟨E0, rfl⟩ := q_v32 g0
    obtain ⟨E1, rfl⟩ := q_v32 g1
    obtain ⟨E2, rfl⟩ := q_v32 g2
    obtain ⟨E3, rfl⟩ := q_v32 g3
    obtain ⟨E4, rfl⟩ := q_v32 g4
    have hE : ∀ σ : qσ, σ 0 = some E0.toInt → σ 1 = some E1.toInt → σ 2 = some E2.toInt → σ 3 = some E3.toInt → σ 4 = some E4.toInt → qEn σ ws [.ref a0] [(3, 0, 0)] [(0, 0, 0), (0, 1, 0), (0, 2, 0), (0, 3, 0), (0, 4, 0)] xL2 := by
      intro σ k0 k1 k2 k3 k4
      refine ⟨fun i a ha h1 => ?_, ⟨E0, g0, by simp [qvl, k0]⟩, ⟨E1, g1, by simp [qvl, k1]⟩, ⟨E2, g2, by simp [qvl, k2]⟩, ⟨E3, g3, by simp [qvl, k3]⟩, ⟨E4, g4, by simp [qvl, k4]⟩, trivial⟩
      match i, ha with
      | 0, ha => cases ha; omega
    refine k_ofW (by decide) (by show 1 ≤ _; decide) ?_
    intro p e s m below meth cd A ls hC hr hlocks hname hw hl
    refine q_seg (B := [mn_2, mn_3, mn_4, mn_5, mn_6, mn_7, mn_8]) (fr := 1) (lc := 22) (c := qNo mn_9.2.2.2.2.2) (ea := []) (pa := []) (X := sX1 c0) (σ := qsl [E0.toInt, E1.toInt, E2.toInt, E3.toInt, E4.toInt]) (ρ := qr0 mD adr) (av := []) (w0 := ws) (lv := lv_args 0 [Value.ref a0]) hC (q_Dok mDok) rfl (q_depW s_d1 adr) mtk_RX12 hcon ⟨Nat.le_refl _, Nat.le_refl _⟩ pk_X12_lays q_noE q_noR v_c1 ?_ hw hl ?_ ?_ ?_ p2 q_K0
    · intro k hk
      rw [List.mem_singleton] at hk
      subst hk
      intro σ2 ρ2 lv2 st2 ls2 ws2 H2 locs2 hw2 hl2 hN2 hF2 hM2 hx2 hK2 hσ2
      have hi67 : qat pg_X12_lays 67 = some (.invokestatic 323, 3) := rfl
      refine q_segS (B := [mn_1]) (fr := 1) (lc := 22) (σ := σ2) (ρ := ρ2) (w0 := ws) (X := sX1 c0) (X' := fun _ => sX2 c0) hC (q_Dok mDok) mtk_RX12 (q_f1 (m_shift γ l c0) q_f0) ⟨Nat.le_refl _, Nat.le_refl _⟩ pk_X12_lays hi67 v_c2 ?_ hw2 hl2 hN2 hF2 hM2 hx2 hK2
      intro k' hk'
      rw [List.mem_singleton] at hk'
      subst hk'
      intro σ3 ρ3 lv3 r st3 ls3 ws3 H3 locs3 hw3 hl3 hN3 hF3 hM3 hx3 hK3 hσ3
      have e : ∀ v z, v < 5 → qsl [E0.toInt, E1.toInt, E2.toInt, E3.toInt, E4.toInt] v = some z → σ3 v = some z := fun v z hv hz => hσ3 v z hv (hσ2 v z hv hz)
      exact q_seg (B := [mn_2, mn_3, mn_4, mn_5, mn_6, mn_7, mn_8]) (fr := 1) (lc := 22) (c := xL2) (ea := [(3, 0, 0)]) (pa := [(0, 0, 0), (0, 1, 0), (0, 2, 0), (0, 3, 0), (0, 4, 0)]) (X := sX2 c0) (σ := σ3) (ρ := ρ3) (av := [.ref a0]) (w0 := ws) hC (q_Dok mDok) rfl (q_depW s_d2 adr) mtk_RX12 hcon2 ⟨Nat.le_refl _, Nat.le_refl _⟩ pk_X12_lays (hE _ (e 0 _ (by decide) rfl) (e 1 _ (by decide) rfl) (e 2 _ (by decide) rfl) (e 3 _ (by decide) rfl) (e 4 _ (by decide) rfl)) (q_rt hC hlocks hr (.inl ⟨rfl, rfl⟩) _) v_c3 (fun k hk => by cases hk) hw3 hl3 hN3 hF3 hM3 hx3 hK3
    · exact q_Nof ⟨n0, n1, n2, n3, n4, trivial⟩ (fun a b d hm => by cases hm)
    · refine ⟨⟨⟨rfl, .inr (.inr (.inr ⟨rfl, a0, rfl, ?_⟩))⟩, trivial⟩, trivial⟩
      show qr0 mD adr 0 = some a0
      unfold qr0
      rw [if_pos (by decide)]
      exact ha
    · refine q_Mof p1 (fun n k av hm => ?_)
      simp only [List.mem_cons, List.mem_nil_iff, or_false, Prod.mk.injEq] at hm
      rcases hm with ⟨rfl, rfl, rfl⟩ | ⟨rfl, rfl, rfl⟩ | ⟨rfl, rfl, rfl⟩ | ⟨rfl, rfl, rfl⟩ | ⟨rfl, rfl, rfl⟩
      · exact ⟨by decide, _, 3, g4, by simp [qvl, qsl], .inl ⟨by decide, rfl⟩⟩
      · exact ⟨by decide, _, 2, g3, by simp [qvl, qsl], .inl ⟨by decide, rfl⟩⟩
      · exact ⟨by decide, _, 3, g2, by simp [qvl, qsl], .inl ⟨by decide, rfl⟩⟩
      · exact ⟨by decide, _, 2, g1, by simp [qvl, qsl], .inl ⟨by decide, rfl⟩⟩
      · exact ⟨by decide, _, 7, g0, by simp [qvl, qsl], .inl ⟨by decide, rfl⟩⟩

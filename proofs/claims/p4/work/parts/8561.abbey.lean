/-! abbey -/
def bS9a : AS := (([], [], []), ([(0, (3, 0, 0))], [(1, 0, 0)]), ([], [(0, 1, (1, 0, 0))], []))
def bS9b : AS := (([(2, 12)], [], []), ([(0, (3, 0, 0))], [(1, 0, 1)]), ([], [(2, 7, (0, 0, 0)), (0, 1, (1, 0, 0))], []))
def bS6 : AS := (([], [], []), ([(0, (3, 0, 0))], [(3, 0, 0)]), ([], [], []))
def bS18 : AS := (([(2, 12)], [], []), ([(0, (3, 0, 0))], [(3, 0, 0)]), ([], [(2, 7, (0, 0, 0)), (0, 1, (1, 0, 0))], []))
def bS21 : AS := (([], [], []), ([(0, (3, 0, 0))], []), ([], [(0, 1, (1, 0, 0))], []))
def bS32 : AS := (([], [], []), ([(0, (3, 0, 0))], []), ([], [(24, 0, (1, 0, 0)), (0, 1, (1, 0, 0))], []))
theorem b_c1 : qrun mD mn_59.2.2.2.2.2 mXr mtb_RX12 mMT [] 6 130 2 1 mn_59 [(3, 0, 0)] [] pg_X12_abbey [] [] (qgo mD mn_59.2.2.2.2.2 mXr mtb_RX12 mMT [] 6 130 2 1 mn_59 [(3, 0, 0)] [] pg_X12_abbey [] [] 0 [] [(6, bS6, (0, []))] 0 none 50) yE 0 = true := by decide +kernel
theorem b_c2 : (match qs_call mD mn_59.2.2.2.2.2 [mn_58] mtb_RX12.2.1 mMT 6 130 true bS6 331 6 with
      | some L => 3 == 3 && L.all (fun y => [((9, bS9a, (0, [])) : qCut), (9, bS9b, (0, []))].any (fun k => k.1 == y.2 && qcchk mD 0 [] 0 none y.1 k))
      | none => false) = true := by decide +kernel
theorem b_c3 : qgo mD mn_59.2.2.2.2.2 mXr mtb_RX12 mMT [] 6 130 2 1 mn_59 [(3, 0, 0)] [] pg_X12_abbey [] [] 0 [] [] 0 none 50 bS9a 9 = true := by decide +kernel
theorem b_c4 : qrun mD mn_59.2.2.2.2.2 (0 :: mXr) mtb_RX12 mMT [] 6 130 2 1 mn_59 [(3, 0, 0)] [] pg_X12_abbey [] [] (qgo mD mn_59.2.2.2.2.2 (0 :: mXr) mtb_RX12 mMT [] 6 130 2 1 mn_59 [(3, 0, 0)] [] pg_X12_abbey [] [] 0 [] [(18, bS18, (0, []))] 0 none 50) bS9b 9 = true := by decide +kernel
theorem b_c5 : (match qs_call mD mn_59.2.2.2.2.2 [mn_9] mtb_RX12.2.1 mMT 6 130 true bS18 334 18 with
      | some L => 3 == 3 && L.all (fun y => [((21, bS21, (0, [])) : qCut)].any (fun k => k.1 == y.2 && qcchk mD 0 [] 0 none y.1 k))
      | none => false) = true := by decide +kernel
def bM : qMods := [(24, 0, 0), (31, 0, 132)]
theorem b_c6 : qrun mD bM [] mtb_RX12 mMT [mn_0] 6 130 2 1 (qNo bM) [] [] pg_X12_abbey [] [] (qgo mD bM [] mtb_RX12 mMT [mn_0] 6 130 2 1 (qNo bM) [] [] pg_X12_abbey [] [] 0 [] [(32, bS32, (0, []))] 0 none 50) bS21 21 = true := by decide +kernel
def bCu : List qCut := [(46, (([(0, 4)], [], []), ([(1, (0, 0, 0)), (0, (3, 0, 0))], []), ([], [(0, 1, (1, 0, 0))], [])), (4, [((-1), 0)]))]
theorem b_go : qgo mD mn_59.2.2.2.2.2 mXr mtb_RX12 mMT [] 6 130 2 1 mn_59 [(3, 0, 0)] [] pg_X12_abbey [] [] 0 [] bCu 0 none 900 bS32 32 = true := by decide +kernel
theorem b_sg : qsegs mD mn_59.2.2.2.2.2 mXr mtb_RX12 mMT [] 6 130 2 1 mn_59 [(3, 0, 0)] [] pg_X12_abbey [] [] 0 [] bCu 900 = true := by decide +kernel
theorem mx_59 (γ : kΓ) (l : Launch) : qSem γ l mD mX mMT mn_59 := by
  refine ⟨_, rfl, fun adr ws av hp => ?_⟩
  obtain ⟨p1, p2, p3, p4, p5⟩ := hp
  match av, p3 with
  | [v0], ⟨hv0, _⟩ =>
    obtain ⟨a0, rfl, ha0⟩ := hv0.2.2 rfl
    have ha : adr[0]? = some a0 := by
      rcases ha0 with ⟨h1, -⟩ | ⟨q, h1, h2⟩
      · exact absurd h1 (by decide)
      · have := (q_Dok mDok).2.2.1 q 0 h1 (by decide)
        rw [← this]; exact h2
    refine k_ofW (by decide) (by show 1 ≤ _; decide) ?_
    intro p e s m below meth cd A ls hC hr hlocks hname hw hl
    have hE : ∀ σ : qσ, qEn σ ws [Value.ref a0] [(3, 0, 0)] [] mn_59 := fun σ => ⟨fun i a h1 h2 => by
        match i, h1 with
        | 0, h1 => cases h1; omega, trivial⟩
    refine q_seg (c := mn_59) (B := []) (fr := 6) (lc := 130) (w0 := ws) (av := [.ref a0]) (ea := [(3, 0, 0)]) (pa := []) (X := mX) (σ := qsl []) (ρ := qr0 mD adr) (lv := lv_args 0 [Value.ref a0]) hC (q_Dok mDok) rfl (m_xok adr) mtk_RX12 q_f0 ⟨Nat.le_refl _, Nat.le_refl _⟩ pk_X12_abbey (hE _) (q_rt hC hlocks hr (.inr (.inl ⟨rfl, rfl⟩)) _) b_c1 ?_ hw hl (q_Nof trivial (fun a b d h => by cases h)) ?_ (q_Mof p1 (fun n k av h => by cases h)) p2 q_K0
    · intro k hk
      rw [List.mem_singleton] at hk
      subst hk
      intro σ2 ρ2 lv2 st2 ls2 ws2 H2 locs2 hw2 hl2 hN2 hF2 hM2 hx2 hK2 hσ2
      refine q_segC (ms := mn_59.2.2.2.2.2) (fr := 6) (lc := 130) (n0 := 0) (n1 := 0) (lk := []) (σ := σ2) (ρ := ρ2) (w0 := ws) (X := mX) (X' := fun _ => mY) (B := [mn_58]) (S := bS6) (pc := 6) (cuts := [((9, bS9a, (0, [])) : qCut), (9, bS9b, (0, []))]) hC (q_Dok mDok) mtk_RX12 (q_f1 (my_58 γ l) q_f0) ⟨Nat.le_refl _, Nat.le_refl _⟩ pk_X12_abbey (show qat pg_X12_abbey 6 = some (.invokevirtual 331, 3) from rfl) b_c2 ?_ hw2 hl2 hN2 hF2 hM2 hx2 hK2
      intro k hk σ3 ρ3 lv3 r st3 ls3 ws3 H3 locs3 hw3 hl3 hN3 hF3 hM3 hx3 hK3 hσ3
      rcases List.mem_cons.mp hk with h | hk
      · subst h
        exact q_mid (B := []) (fr := 6) (lc := 130) (c := mn_59) (ea := [(3, 0, 0)]) (pa := []) (n0 := 0) (X := mX) (σ := σ3) (ρ := ρ3) (av := [.ref a0]) (w0 := ws) (cuts := []) (fu := 50) hC (q_Dok mDok) rfl (m_xok adr) mtk_RX12 q_f0 ⟨Nat.le_refl _, Nat.le_refl _⟩ pk_X12_abbey (hE _) (fun σ => q_rt hC hlocks hr (.inr (.inl ⟨rfl, rfl⟩)) σ) rfl b_c3 rfl hw3 hl3 hN3 hF3 hM3 hx3.1 hK3
      · have h := List.mem_singleton.mp hk
        subst h
        refine q_seg (c := mn_59) (B := []) (fr := 6) (lc := 130) (w0 := ws) (av := [.ref a0]) (ea := [(3, 0, 0)]) (pa := []) (n0 := 0) (X := mY) (σ := σ3) (ρ := ρ3) hC (q_Dok mDok) rfl (m_yok adr) mtk_RX12 q_f0 ⟨Nat.le_refl _, Nat.le_refl _⟩ pk_X12_abbey (hE _) (q_rtX (q_rt (X := mX) hC hlocks hr (.inr (.inl ⟨rfl, rfl⟩)) _) (fun r w c => ⟨c.1, c.2.1.1, c.2.2⟩)) b_c4 ?_ hw3 hl3 hN3 hF3 hM3 hx3 hK3
        intro k hk
        rw [List.mem_singleton] at hk
        subst hk
        intro σ4 ρ4 lv4 st4 ls4 ws4 H4 locs4 hw4 hl4 hN4 hF4 hM4 hx4 hK4 hσ4
        refine q_segC (ms := mn_59.2.2.2.2.2) (fr := 6) (lc := 130) (n0 := 0) (n1 := 0) (lk := []) (σ := σ4) (ρ := ρ4) (w0 := ws) (X := mY) (X' := fun _ => mX) (B := [mn_9]) (S := bS18) (pc := 18) (cuts := [((21, bS21, (0, [])) : qCut)]) hC (q_Dok mDok) mtk_RX12 (q_f1 (my_9 γ l) q_f0) ⟨Nat.le_refl _, Nat.le_refl _⟩ pk_X12_abbey (show qat pg_X12_abbey 18 = some (.invokevirtual 334, 3) from rfl) b_c5 ?_ hw4 hl4 hN4 hF4 hM4 hx4 hK4
        intro k hk
        rw [List.mem_singleton] at hk
        subst hk
        intro σ5 ρ5 lv5 r5 st5 ls5 ws5 H5 locs5 hw5 hl5 hN5 hF5 hM5 hx5 hK5 hσ5
        have hH5 := q_H00 hM5 (r := [])
        refine q_seg (c := qNo bM) (B := [mn_0]) (fr := 6) (lc := 130) (ea := []) (pa := []) (n0 := 0) (w0 := ws5) (av := []) (X := fun _ => True) (σ := σ5) (ρ := ρ5) hC (q_Dok mDok) rfl (fun _ _ _ _ _ _ _ _ _ _ => trivial) mtk_RX12 (q_f1 (ms_0 γ l) q_f0) ⟨Nat.le_refl _, Nat.le_refl _⟩ pk_X12_abbey q_noE q_noR b_c6 ?_ hw5 hl5 hN5 hF5 hM5 trivial q_K0
        intro k hk
        rw [List.mem_singleton] at hk
        subst hk
        intro σ6 ρ6 lv6 st6 ls6 ws6 H6 locs6 hw6 hl6 hN6 hF6 hM6 hx6 hK6 hσ6
        have hH6 := q_H00 hM6 (r := [])
        obtain ⟨z, z1, z2⟩ := q_gvM hM6 hw6.2.1.1 (n := 24) (k := 0) (av := (1, 0, 0)) (by decide) (by decide) rfl (.head _)
        have z2 : (0 : Int) = z := Option.some.inj z2
        subst z2
        have hX : mX ws6 := m_ln0 0 hH5 hH6 hK6 (fun j _ => by simp [qmod, bM, qNo]) (fun j _ => by simp [qmod, bM, qNo]) (fun j _ => by simp [qmod, bM, qNo]) (fun r _ h => by
          show qmod [(24, 0, 0), (31, 0, 132)] 24 r = false
          unfold qmod
          rw [List.any_eq_false]
          intro m hm hc
          simp only [List.mem_cons, List.mem_nil_iff, or_false] at hm
          simp only [Bool.and_eq_true, beq_iff_eq, Nat.ble_eq] at hc
          rcases hm with rfl | rfl <;> simp only at hc <;> omega) (fun j _ => by simp [qmod, bM, qNo]) (m_gv z1) hx5
        exact q_mid (B := []) (fr := 6) (lc := 130) (c := mn_59) (ea := [(3, 0, 0)]) (pa := []) (n0 := 0) (X := mX) (σ := σ6) (ρ := ρ6) (av := [.ref a0]) (w0 := ws) hC (q_Dok mDok) rfl (m_xok adr) mtk_RX12 q_f0 ⟨Nat.le_refl _, Nat.le_refl _⟩ pk_X12_abbey (hE _) (fun σ => q_rt hC hlocks hr (.inr (.inl ⟨rfl, rfl⟩)) σ) rfl b_go b_sg hw6 hl6 hN6 hF6 hM6 hX (q_Kt hH5 (by decide) hK5 hK6)
    · refine ⟨⟨⟨rfl, .inr (.inr (.inr ⟨rfl, a0, rfl, ?_⟩))⟩, trivial⟩, trivial⟩
      show qr0 mD adr 0 = some a0
      unfold qr0
      rw [if_pos (by decide)]
      exact ha

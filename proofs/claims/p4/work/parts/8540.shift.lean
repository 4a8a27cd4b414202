/-! shifts of the codes -/
def sS (k : Nat) : AS := (([(0, 10099)], [], []), ([(0, (3, 11, 0)), (1, (1, 0, 1000)), (2, (1, 0, (k : Int)))], []), ([], [(11, 1000 + k, (0, 0, 0))], []))
def sC (k : Nat) : AS := (([(0, 10099)], [], []), ([(0, (3, 11, 0)), (1, (1, 0, 1000)), (2, (1, 0, (k : Int) + 1))], []), ([], [(11, k, (0, 0, 0))], []))
def sZ : AS := (([], [], []), ([(0, (3, 11, 0)), (1, (1, 0, 1000)), (2, (1, 0, 1000))], []), ([], [], []))
def sE : AS := (([], [], []), ([(0, (3, 11, 0)), (1, (1, 0, 1000))], []), ([], [], []))
def sO : AS := (([], [], []), ([(0, (3, 11, 0)), (1, (1, 0, 1000)), (2, (1, 0, 0))], []), ([], [], []))
def sChk (k : Nat) : Bool := qrun mD [(11, k, k)] [] mtb_RX12 mMT [] 0 0 3 0 (qNo [(11, k, k)]) [] [] pg_X12_shifts [] [] (qgo mD [(11, k, k)] [] mtb_RX12 mMT [] 0 0 3 0 (qNo [(11, k, k)]) [] [] pg_X12_shifts [] [] 1 [] [(2, sC k, (0, []))] 0 none 40) (sS k) 2
theorem s_0 : ((List.range 250).all fun i => sChk i) = true := by decide +kernel
theorem s_1 : ((List.range 250).all fun i => sChk (250 + i)) = true := by decide +kernel
theorem s_2 : ((List.range 250).all fun i => sChk (500 + i)) = true := by decide +kernel
theorem s_3 : ((List.range 250).all fun i => sChk (750 + i)) = true := by decide +kernel
theorem s_c {k : Nat} (h : k < 1000) : sChk k = true := by
  by_cases a0 : k < 250
  · exact List.all_eq_true.mp s_0 k (List.mem_range.mpr a0)
  by_cases a1 : k < 500
  · have := List.all_eq_true.mp s_1 (k - 250) (List.mem_range.mpr (by omega))
    rwa [show 250 + (k - 250) = k by omega] at this
  by_cases a2 : k < 750
  · have := List.all_eq_true.mp s_2 (k - 500) (List.mem_range.mpr (by omega))
    rwa [show 500 + (k - 500) = k by omega] at this
  have := List.all_eq_true.mp s_3 (k - 750) (List.mem_range.mpr (by omega))
  rwa [show 750 + (k - 750) = k by omega] at this
theorem s_e : qrun mD [] [] mtb_RX12 mMT [] 0 0 3 0 (qNo []) [] [] pg_X12_shifts [] [] (qgo mD [] [] mtb_RX12 mMT [] 0 0 3 0 (qNo []) [] [] pg_X12_shifts [] [] 0 [] [(2, sO, (0, []))] 0 none 40) sE 0 = true := by decide +kernel
theorem s_z : qrun mD mn_1.2.2.2.2.2 [11] mtb_RX12 mMT [] 0 0 3 0 mn_1 [(3, 11, 0), (1, 0, 1000)] [] pg_X12_shifts [] [] (qgo mD mn_1.2.2.2.2.2 [11] mtb_RX12 mMT [] 0 0 3 0 mn_1 [(3, 11, 0), (1, 0, 1000)] [] pg_X12_shifts [] [] 0 [] [] 0 none 40) sZ 2 = true := by decide +kernel
def sX1 (c0 : Nat → Int) (w : va_W) : Prop := ∀ i, i < 2000 → mGet w 11 i = c0 i
def sX2 (c0 : Nat → Int) (w : va_W) : Prop := ∀ i, i < 1000 → mGet w 11 i = c0 (1000 + i)
theorem s_d1 {c0 : Nat → Int} : qdep mD [11] (sX1 c0) := fun ws w1 he h hx i hi => by
  rw [m_get1 he (q := 11) (k := i) (fun a a' c c' h1 h2 => h 11 11 a a' c c' (by decide +kernel) (by decide) h1 h2 i)]
  exact hx i hi
theorem s_d2 {c0 : Nat → Int} : qdep mD [11] (sX2 c0) := fun ws w1 he h hx i hi => by
  rw [m_get1 he (q := 11) (k := i) (fun a a' c c' h1 h2 => h 11 11 a a' c c' (by decide +kernel) (by decide) h1 h2 i)]
  exact hx i hi
theorem m_shift (γ : kΓ) (l : Launch) (c0 : Nat → Int) : qSem2 γ l mD (sX1 c0) (fun _ => sX2 c0) mMT mn_1 := by
  refine ⟨_, rfl, fun adr ws av hp => ?_⟩
  obtain ⟨p1, p2, p3, p4, p5⟩ := hp
  match av, p3 with
  | [v0, v1], ⟨hv0, hv1, _⟩ =>
    obtain ⟨a0, rfl, ha0⟩ := hv0.2.2 rfl
    obtain ⟨J1, rfl, hJ1⟩ := hv1.1 rfl
    have hJ1 : (1000 : Int) ≤ J1.toInt ∧ J1.toInt ≤ 1000 := hJ1
    have ha : adr[11]? = some a0 := by
      rcases ha0 with ⟨h1, -⟩ | ⟨q, h1, h2⟩
      · exact absurd h1 (by decide)
      · have := (q_Dok mDok).2.2.1 q 11 h1 (by decide)
        rw [← this]; exact h2
    refine k_ofW (by decide) (by show 2 ≤ _; decide) ?_
    intro p e s m below meth cd A ls hC hr hlocks hname hw hl
    have hr11 : qr0 mD adr 11 = some a0 := by
      unfold qr0
      rw [if_pos (by decide)]
      exact ha
    have loop : ∀ (n k : Nat), k + n = 1000 → ∀ (ls : Array Slot) (w : va_W) (H : Heap) (locs : List Loc) (K : Int32), kW γ A w s H locs → lv_has ls 3 [(0, .ref a0), (1, .int J1), (2, .int K)] → K.toInt = (k : Int) → qH mD γ adr (fun _ _ => False) w → (∀ i, i < k → mGet w 11 i = c0 (1000 + i)) → (∀ i, k ≤ i → i < 2000 → mGet w 11 i = c0 i) → qK mD mn_1.2.2.2.2.2 ws w →
        W p l e { frames := mn_1.1.2.1, cells := 0, slots := 0, locals := mn_1.1.2.2 } s m [Value.ref a0, .int J1].toArray below meth cd H locs 0 0 (MQ below (kQ γ A (fun r w1 => qPost mD γ (sX2 c0) mn_1 adr ws [.ref a0, .int J1] r w1)) [Value.ref a0, .int J1].toArray s 0 0 A) (F0 m 2 ls []) := by
      intro n
      induction n with
      | zero =>
        intro k hk ls w H locs K hw hl hK hH i1 i2 hKK
        have hk : k = 1000 := by omega
        subst hk
        refine q_seg (c := mn_1) (ea := [(3, 11, 0), (1, 0, 1000)]) (pa := []) (X := sX2 c0) (σ := qsl []) (ρ := qr0 mD adr) (av := [.ref a0, .int J1]) (w0 := ws) hC (q_Dok mDok) rfl (q_depW s_d2 adr) mtk_RX12 q_f0 ⟨Nat.zero_le _, Nat.zero_le _⟩ pk_X12_shifts ⟨fun i a h1 h2 => ?_, trivial⟩ (q_rt hC hlocks hr (.inl ⟨rfl, rfl⟩) _) s_z (fun k hk => by cases hk) hw hl (q_Nof trivial (fun a b d h => by cases h)) ⟨⟨⟨rfl, .inr (.inr (.inr ⟨rfl, a0, rfl, hr11⟩))⟩, ⟨rfl, .inr (.inl ⟨rfl, J1, rfl, by show J1.toInt = (1000 : Int); omega⟩)⟩, ⟨rfl, .inr (.inl ⟨rfl, K, rfl, by rw [hK]; rfl⟩)⟩, trivial⟩, trivial⟩ (q_Mof hH (fun n k av h => by cases h)) i1 hKK
        match i, h1 with
        | 0, h1 => cases h1; omega
        | 1, h1 => cases h1; exact ⟨J1, rfl, by simp [qvl]; omega⟩
      | succ n ih =>
        intro k hk ls w H locs K hw hl hK hH i1 i2 hKK
        have hch := s_c (k := k) (by omega)
        unfold sChk at hch
        obtain ⟨x, hx1, hx2⟩ := q_ty hH (n := 11) (g := 11) (k := 1000 + k) (r := (0, 2000, [(2000, (0, 0, 10099))])) (by decide +kernel) rfl (by show 1000 + k < 2000; omega) (by simp only [qsg]; rw [if_pos (by omega)])
        simp only [qsg] at hx2
        rw [if_pos (by omega)] at hx2
        refine q_seg (c := qNo [(11, k, k)]) (w0 := w) (av := []) (X := fun _ => True) (σ := qsl [x.toInt]) (ρ := qr0 mD adr) hC (q_Dok mDok) rfl (fun _ _ _ _ _ _ _ _ _ _ => trivial) mtk_RX12 q_f0 ⟨Nat.zero_le _, Nat.zero_le _⟩ pk_X12_shifts q_noE q_noR hch ?_ hw hl (q_Nof ⟨hx2, trivial⟩ (fun a b d h => by cases h)) ⟨⟨⟨rfl, .inr (.inr (.inr ⟨rfl, a0, rfl, hr11⟩))⟩, ⟨rfl, .inr (.inl ⟨rfl, J1, rfl, by show J1.toInt = (1000 : Int); omega⟩)⟩, ⟨rfl, .inr (.inl ⟨rfl, K, rfl, hK⟩)⟩, trivial⟩, trivial⟩ (q_Mof hH (fun n k' av h => by
          rw [List.mem_singleton] at h
          cases h
          exact ⟨by decide, _, 1000 + k, hx1, by simp [qvl, qsl], .inl ⟨by omega, rfl⟩⟩)) trivial q_K0
        intro kk hkk
        rw [List.mem_singleton] at hkk
        subst hkk
        intro σ2 ρ2 lv2 st2 ls2 w2 H2 locs2 hw2 hl2 hN2 hF2 hM2 hx2' hK2 hσ
        have hst2 := q_l0 hF2.2
        subst hst2
        obtain ⟨⟨j0, y0⟩, ⟨j1, y1⟩, ⟨j2, y2⟩, rfl, ⟨z0, r0⟩, ⟨z1, r1⟩, ⟨z2, r2⟩⟩ := q_l3 hF2.1
        simp only at z0 z1 z2
        subst z0; subst z1; subst z2
        obtain ⟨b, rfl, hb⟩ := q_r3 r0
        obtain ⟨D2, rfl, hD2⟩ := q_r1 r1
        obtain ⟨W2, rfl, hW3⟩ := q_r1 r2
        have hb2 : b = a0 := by
          have := hM2.1 11 (by decide)
          rw [hb, ha] at this
          exact Option.some.inj this
        subst hb2
        have hDJ : D2 = J1 := Int32.toInt_inj.mp (by rw [hD2]; omega)
        subst hDJ
        have hH2 := q_H00 hM2 (r := [])
        have hv := r_gv hM2 hw2.2.1.1 (n := 11) (k := k) (v := 0) (by decide) (by omega) (.head _) (hσ 0 _ (by decide) rfl)
        have old : ∀ i, i ≠ k → mGet w2 11 i = mGet w 11 i := fun i hi => m_K1 hH hH2 hK2 (by decide +kernel) (by
          show qmod [(11, k, k)] 11 i = false
          unfold qmod
          rw [List.any_eq_false]
          intro m hm hc
          have hm := List.mem_singleton.mp hm
          subst hm
          simp only [Bool.and_eq_true, beq_iff_eq, Nat.ble_eq] at hc
          omega)
        refine ih (k + 1) (by omega) ls2 w2 H2 locs2 W2 hw2 hl2 (by rw [hW3]; push_cast; rfl) hH2 (fun i hi => ?_) (fun i h1 h2 => ?_) (q_Kt hH ?_ hKK hK2)
        · by_cases hik : i = k
          · subst hik
            rw [m_gv hv, ← i2 (1000 + i) (by omega) (by omega), m_gv hx1]
          · rw [old i hik]; exact i1 i (by omega)
        · rw [old i (by omega)]; exact i2 i (by omega) h2
        · have b1 : Nat.ble k 999 = true := Nat.ble_eq_true_of_le (by omega)
          show qcov [(11, k, k)] [(11, 0, 999)] = true
          simp [qcov, b1]
    refine q_seg (c := qNo []) (w0 := ws) (av := []) (X := fun _ => True) (σ := qsl []) (ρ := qr0 mD adr) (lv := lv_args 0 [Value.ref a0, .int J1]) hC (q_Dok mDok) rfl (fun _ _ _ _ _ _ _ _ _ _ => trivial) mtk_RX12 q_f0 ⟨Nat.zero_le _, Nat.zero_le _⟩ pk_X12_shifts q_noE q_noR s_e ?_ hw hl (q_Nof trivial (fun a b d h => by cases h)) ⟨⟨⟨rfl, .inr (.inr (.inr ⟨rfl, a0, rfl, hr11⟩))⟩, ⟨rfl, .inr (.inl ⟨rfl, J1, rfl, by show J1.toInt = (1000 : Int); omega⟩)⟩, trivial⟩, trivial⟩ (q_Mof p1 (fun n k av h => by cases h)) trivial q_K0
    intro kk hkk
    rw [List.mem_singleton] at hkk
    subst hkk
    intro σ2 ρ2 lv2 st2 ls2 w2 H2 locs2 hw2 hl2 hN2 hF2 hM2 hx2' hK2 hσ
    have hst2 := q_l0 hF2.2
    subst hst2
    obtain ⟨⟨j0, y0⟩, ⟨j1, y1⟩, ⟨j2, y2⟩, rfl, ⟨z0, r0⟩, ⟨z1, r1⟩, ⟨z2, r2⟩⟩ := q_l3 hF2.1
    simp only at z0 z1 z2
    subst z0; subst z1; subst z2
    obtain ⟨b, rfl, hb⟩ := q_r3 r0
    obtain ⟨D2, rfl, hD2⟩ := q_r1 r1
    obtain ⟨W2, rfl, hW3⟩ := q_r1 r2
    have hb2 : b = a0 := by
      have := hM2.1 11 (by decide)
      rw [hb, ha] at this
      exact Option.some.inj this
    subst hb2
    have hDJ : D2 = J1 := Int32.toInt_inj.mp (by rw [hD2]; omega)
    subst hDJ
    have hH2 := q_H00 hM2 (r := [])
    have old : ∀ i, mGet w2 11 i = mGet ws 11 i := fun i => m_K1 p1 hH2 hK2 (by decide +kernel) rfl
    exact loop 1000 0 rfl ls2 w2 H2 locs2 W2 hw2 hl2 (by rw [hW3]; rfl) hH2 (fun i hi => by omega) (fun i _ hi => by rw [old]; exact p2 i hi) (fun q g a c a' c' hg e0 e1 k hk => hK2 q g a c a' c' hg e0 e1 k rfl)

theorem w_all {j : Nat} (hj : j < 2) {st : List Nat} (hst : st ∈ wAll) {κ : qIv} (hκ : κ ∈ wK) : wchk j st κ = true := by
  have key : ∀ {L : List (List Nat)} {j : Nat}, (L.all fun st => wK.all fun κ => wchk j st κ) = true → st ∈ L → wchk j st κ = true := fun h hm => List.all_eq_true.mp (List.all_eq_true.mp h st hm) κ hκ
  have hj2 : j = 0 ∨ j = 1 := by omega
  unfold wAll at hst
  simp only [List.mem_append] at hst
  rcases hj2 with rfl | rfl
  · rcases hst with (((((((h | h) | h) | h) | h) | h) | h) | h) | h
    · exact key w_c0_0 h
    · exact key w_c0_1 h
    · exact key w_c0_2 h
    · exact key w_c0_3 h
    · exact key w_c0_4 h
    · exact key w_c0_5 h
    · exact key w_c0_6 h
    · exact key w_c0_7 h
    · exact key w_c0_8 h
  · rcases hst with (((((((h | h) | h) | h) | h) | h) | h) | h) | h
    · exact key w_c1_0 h
    · exact key w_c1_1 h
    · exact key w_c1_2 h
    · exact key w_c1_3 h
    · exact key w_c1_4 h
    · exact key w_c1_5 h
    · exact key w_c1_6 h
    · exact key w_c1_7 h
    · exact key w_c1_8 h
theorem w_dl {s : List Nat} {c : Int} (h : 20 ≤ c ∧ c ≤ 27 ∧ ¬ c = 23) : mDl s c = some s := by
  unfold mDl
  rw [if_neg (by omega), if_neg (by omega), if_pos h]
theorem w_dp {s : List Nat} {c : Int} (h1 : ¬ c = 28) (h2 : ¬ c = 30) (h3 : ¬ (20 ≤ c ∧ c ≤ 27 ∧ ¬ c = 23)) (h4 : ¬ c = 29) : mDl s c = some (mPop s) := by
  unfold mDl
  rw [if_neg h1, if_neg h2, if_neg h3, if_neg h4]
theorem w_cls (s : List Nat) {c : Int} (h0 : 0 ≤ c) (h1 : c ≤ 10099) : ∃ κ ∈ wK, qIn κ c ∧ mDl s c = mDl s κ.1 := by
  by_cases a1 : c = 28
  · exact ⟨(28, 28), by decide, ⟨by show (28 : Int) ≤ c; omega, by show c ≤ 28; omega⟩, by rw [a1]⟩
  by_cases a2 : c = 30
  · exact ⟨(30, 30), by decide, ⟨by show (30 : Int) ≤ c; omega, by show c ≤ 30; omega⟩, by rw [a2]⟩
  by_cases a3 : c = 29
  · exact ⟨(29, 29), by decide, ⟨by show (29 : Int) ≤ c; omega, by show c ≤ 29; omega⟩, by rw [a3]⟩
  by_cases a4 : 20 ≤ c ∧ c ≤ 22
  · exact ⟨(20, 22), by decide, ⟨a4.1, a4.2⟩, by rw [w_dl (by omega), w_dl (by decide)]⟩
  by_cases a5 : 24 ≤ c ∧ c ≤ 27
  · exact ⟨(24, 27), by decide, ⟨a5.1, a5.2⟩, by rw [w_dl (by omega), w_dl (by decide)]⟩
  by_cases a6 : c ≤ 19
  · exact ⟨(0, 19), by decide, ⟨h0, a6⟩, by rw [w_dp a1 a2 (by omega) a3, w_dp (by decide) (by decide) (by decide) (by decide)]⟩
  by_cases a7 : c = 23
  · exact ⟨(23, 23), by decide, ⟨by show (23 : Int) ≤ c; omega, by show c ≤ 23; omega⟩, by rw [a7]⟩
  exact ⟨(31, 10099), by decide, ⟨by show (31 : Int) ≤ c; omega, h1⟩, by rw [w_dp a1 a2 (by omega) a3, w_dp (by decide) (by decide) (by decide) (by decide)]⟩
theorem w_Bn : ∀ {st : List Nat} {n k : Nat} {av : AV}, (n, k, av) ∈ wB st → n = 22 ∧ k ≤ st.length ∧ av.1 = 1
  | a :: r, n, k, av, h => by
    unfold wB at h
    rcases List.mem_cons.mp h with h | h
    · cases h
      exact ⟨rfl, Nat.le_refl _, rfl⟩
    · obtain ⟨h1, h2, h3⟩ := w_Bn h
      exact ⟨h1, Nat.le_succ_of_le h2, h3⟩
theorem w_len : wAll.all (fun s => Nat.ble s.length 5) = true := by decide +kernel
theorem m_gv {ws : va_W} {n k : Nat} {x : Int} (h : qval ws (n, k, 0, 0) = some x) : mGet ws n k = x := by
  unfold mGet
  simp only [qval] at h
  split at h
  · rename_i c hc
    rw [hc]
    simp only
    split at h
    · rename_i y hy
      rw [hy]
      exact Option.some.inj h
    · cases h
  · cases h
section WK
variable {γ : kΓ} {p : Program} {l : Launch} {e : Env} {R : Room} {s : State} {m : MethodId} {args : Array Value} {below : List Frame} {meth : Method} {cd : Code} {Q : State → Prop} {A : Nat → Prop} {adr : List Nat} {w0 : va_W} {a0 : Nat} {J : Int32}
theorem w_st (hB : kC γ p s m args cd cX12_worked 6 RX12 A) (hR : 2 ≤ R.frames ∧ 43 ≤ R.locals) (hret : ∀ σ : qσ, qRt (γ, p, l, e, R, s, m, args, below, meth, cd, Q, (cX12_worked, 6, RX12), A, mD, adr, mX, mn_92.2.2.2.2.2, w0, σ) 1 (qPost mD γ mX mn_92 adr w0 [.ref a0, .int J])) (hcon : ∀ c ∈ [mn_89, mn_90, mn_91], qSem γ l mD mX mMT c) {j : Nat} (hj : j < 2) (hJ : J.toInt = (j : Int)) (hH0 : qH mD γ adr (fun _ _ => False) w0) (ha0 : adr[0]? = some a0) {t : Nat} (ht : qval w0 (10, j, 0, 0) = some (t : Int)) (ht2 : t ≤ 1000) (n : Nat)
    (ih : ∀ n', n = n' + 1 → ∀ (st : List Nat) (k : Nat), st ∈ wAll → k + n' + 1 = t → (mRun (mGet w0 11) (n' + 1) k st).isSome = true → ∀ (ls : Array Slot) (ws : va_W) (H : Heap) (locs : List Loc) (Dd K : Int32), kW γ A ws s H locs → lv_has ls 6 [(0, .ref a0), (1, .int J), (2, .int Dd), (3, .int K)] → Dd.toInt = (st.length : Int) → K.toInt = (k : Int) → qH mD γ adr (fun _ _ => False) ws → mX ws → qK mD mn_92.2.2.2.2.2 w0 ws → (∀ n k av, (n, k, av) ∈ wB st → qval ws (n, k, 0, 0) = some av.2.2) → W p l e R s m args below meth cd H locs 0 0 Q (F0 m 24 ls [])) :
    ∀ (st : List Nat) (k : Nat), st ∈ wAll → k + n + 1 = t → (mRun (mGet w0 11) (n + 1) k st).isSome = true → ∀ (ls : Array Slot) (ws : va_W) (H : Heap) (locs : List Loc) (Dd K : Int32), kW γ A ws s H locs → lv_has ls 6 [(0, .ref a0), (1, .int J), (2, .int Dd), (3, .int K)] → Dd.toInt = (st.length : Int) → K.toInt = (k : Int) → qH mD γ adr (fun _ _ => False) ws → mX ws → qK mD mn_92.2.2.2.2.2 w0 ws → (∀ n k av, (n, k, av) ∈ wB st → qval ws (n, k, 0, 0) = some av.2.2) → W p l e R s m args below meth cd H locs 0 0 Q (F0 m 24 ls []) := by
  intro st k hst hkn hrun ls ws H locs Dd K hw hl hD2 hK2 hH hx hK hB2
  have hs5 : st.length ≤ 5 := Nat.ble_eq.mp (List.all_eq_true.mp w_len st hst)
  obtain ⟨x, hx1, hx2⟩ := q_ty hH (n := 11) (g := 11) (k := k) (r := (0, 2000, [(2000, (0, 0, 10099))])) (by decide +kernel) rfl (by show k < 2000; omega) (by simp only [qsg]; rw [if_pos (by omega)])
  simp only [qsg] at hx2
  rw [if_pos (by omega)] at hx2
  have hx2 : 0 ≤ x.toInt ∧ x.toInt ≤ 10099 := hx2
  have hxw : mGet w0 11 k = x.toInt := m_gv (by rw [← q_Kval hH0 hH hK (g := 11) (by decide +kernel) (by rfl)]; exact hx1)
  have htw : qval ws (10, j, 0, 0) = some (t : Int) := by rw [q_Kval hH0 hH hK (g := 10) (by decide +kernel) (by rfl)]; exact ht
  rw [mRun, hxw] at hrun
  obtain ⟨κ, κ1, κ2, κ3⟩ := w_cls st hx2.1 hx2.2
  have hch := w_all hj hst κ1
  unfold wchk at hch
  rw [← κ3] at hch
  cases hdl : mDl st x.toInt with
  | none => rw [hdl] at hrun; cases hrun
  | some s' =>
    rw [hdl] at hrun hch
    simp only [Option.bind_some] at hrun
    simp only [Bool.and_eq_true] at hch
    have hE : qEn (qsl [(j : Int), (k : Int), (t : Int), x.toInt]) w0 [.ref a0, .int J] [(3, 0, 0), (0, 0, 0)] [] mn_92 := by
      refine ⟨fun i a ha h1 => ?_, trivial⟩
      match i, ha with
      | 0, ha => cases ha; omega
      | 1, ha => cases ha; exact ⟨J, rfl, by rw [hJ]; simp [qvl, qsl]⟩
    refine q_seg (σ := qsl [(j : Int), (k : Int), (t : Int), x.toInt]) (ρ := qr0 mD adr) (av := [.ref a0, .int J]) hB (q_Dok mDok) rfl (m_xok adr) mtk_RX12 hcon hR pk_X12_worked hE (hret _) hch.2 ?_ hw hl ?_ ?_ ?_ hx hK
    · intro kk hkk
      rw [List.mem_singleton] at hkk
      subst hkk
      intro σ2 ρ2 lv2 st2 ls2 ws2 H2 locs2 hw2 hl2 hN2 hF2 hM2 hx2' hK2' hσ
      have hst2 := q_l0 hF2.2
      subst hst2
      obtain ⟨⟨i0, v0⟩, ⟨i1, v1⟩, ⟨i2, v2⟩, ⟨i3, v3⟩, rfl, ⟨e0, r0⟩, ⟨e1, r1⟩, ⟨e2, r2⟩, ⟨e3, r3⟩⟩ := q_l4 hF2.1
      simp only at e0 e1 e2 e3
      subst e0; subst e1; subst e2; subst e3
      obtain ⟨b, rfl, hb⟩ := q_r3 r0
      obtain ⟨y1, u1, rfl, hu1, hy1⟩ := q_r0 r1
      obtain ⟨y2, rfl, hy2⟩ := q_r1 r2
      obtain ⟨y3, u3, rfl, hu3, hy3⟩ := q_r0 r3
      have s0 := hσ 0 (j : Int) (by decide) rfl
      have s1 := hσ 1 (k : Int) (by decide) rfl
      have s2 := hσ 2 (t : Int) (by decide) rfl
      rw [s0] at hu1; cases hu1
      rw [s1] at hu3; cases hu3
      have hb2 : b = a0 := by
        have := hM2.1 0 (by decide)
        rw [hb, ha0] at this
        exact Option.some.inj this
      subst hb2
      have hyJ : y1 = J := Int32.toInt_inj.mp (by rw [hy1, hJ]; omega)
      subst hyJ
      obtain ⟨X1, Y1, z1, z2, z3⟩ := hN2.2.2.1 2 1 2 List.mem_cons_self
      rw [s2] at z1; cases z1
      rw [s1] at z2; cases z2
      have hHs : qH mD γ adr (fun _ _ => False) ws2 := by
        refine ⟨hM2.2.2.2.2.1, hM2.2.2.2.2.2.1, fun q g a c hg hc => ?_⟩
        obtain ⟨r, r1, r2, r3⟩ := hM2.2.2.2.2.2.2 q g a c hg hc
        exact ⟨r, r1, r2, fun k hk => (r3 k hk).elim (fun ⟨n', z1, _⟩ => by cases z1) .inr⟩
      match n, ih, hrun, hkn with
      | 0, ih, hrun, hkn => exfalso; omega
      | n' + 1, ih, hrun, hkn =>
        refine ih n' rfl s' (k + 1) (by simpa using hch.1) (by omega) hrun ls2 ws2 H2 locs2 y2 y3 hw2 hl2 hy2 (by rw [hy3]; push_cast; omega) hHs hx2' hK2' (fun n k av hm => ?_)
        obtain ⟨q1, q2, q3⟩ := w_Bn hm
        have hs6 : s'.length ≤ 5 := Nat.ble_eq.mp (List.all_eq_true.mp w_len s' (by simpa using hch.1))
        obtain ⟨z, z1, z2⟩ := q_gvM hM2 hw2.2.1.1 (n := n) (k := k) (av := av) (by rw [q1]; decide) (by omega) (by unfold qint; rw [q3]; rfl) (List.mem_cons_of_mem _ hm)
        rw [z1]
        unfold qvl at z2
        rw [if_neg (by omega), if_pos q3] at z2
        exact z2.symm
    · refine q_Nof ⟨⟨Int.le_refl _, Int.le_refl _⟩, ⟨by show (0 : Int) ≤ k; omega, by show (k : Int) ≤ 999; omega⟩, ⟨by show (1 : Int) ≤ t; omega, by show (t : Int) ≤ 1000; omega⟩, κ2, trivial⟩ (fun a b d hm => ?_)
      rw [List.mem_singleton] at hm
      cases hm
      exact ⟨_, _, rfl, rfl, by omega⟩
    · refine ⟨⟨⟨rfl, .inr (.inr (.inr ⟨rfl, a0, rfl, ?_⟩))⟩, ⟨rfl, .inl ⟨rfl, J, (j : Int), rfl, rfl, by rw [hJ]; simp⟩⟩, ⟨rfl, .inr (.inl ⟨rfl, Dd, rfl, hD2⟩)⟩, ⟨rfl, .inl ⟨rfl, K, (k : Int), rfl, rfl, by rw [hK2]; simp⟩⟩, trivial⟩, trivial⟩
      show qr0 mD adr 0 = some a0
      unfold qr0
      rw [if_pos (by decide)]
      exact ha0
    · refine q_Mof hH (fun n k' av hm => ?_)
      rcases List.mem_cons.mp hm with h | h
      · cases h
        exact ⟨by decide, x.toInt, k, hx1, by simp [qvl, qsl], q_iky (l := [(j : Int), (k : Int), (t : Int), x.toInt]) rfl⟩
      · rcases List.mem_cons.mp h with h | h
        · cases h
          exact ⟨by decide, t, j, htw, by simp [qvl, qsl], .inl ⟨by omega, rfl⟩⟩
        · obtain ⟨q1, q2, q3⟩ := w_Bn h
          refine ⟨by rw [q1]; decide, av.2.2, k', hB2 n k' av h, ?_, .inl ⟨by omega, rfl⟩⟩
          unfold qvl
          rw [if_neg (by omega), if_pos q3]
theorem w_loop (hB : kC γ p s m args cd cX12_worked 6 RX12 A) (hR : 2 ≤ R.frames ∧ 43 ≤ R.locals) (hret : ∀ σ : qσ, qRt (γ, p, l, e, R, s, m, args, below, meth, cd, Q, (cX12_worked, 6, RX12), A, mD, adr, mX, mn_92.2.2.2.2.2, w0, σ) 1 (qPost mD γ mX mn_92 adr w0 [.ref a0, .int J])) (hcon : ∀ c ∈ [mn_89, mn_90, mn_91], qSem γ l mD mX mMT c) {j : Nat} (hj : j < 2) (hJ : J.toInt = (j : Int)) (hH0 : qH mD γ adr (fun _ _ => False) w0) (ha0 : adr[0]? = some a0) {t : Nat} (ht : qval w0 (10, j, 0, 0) = some (t : Int)) (ht2 : t ≤ 1000) :
    ∀ (n : Nat) (st : List Nat) (k : Nat), st ∈ wAll → k + n + 1 = t → (mRun (mGet w0 11) (n + 1) k st).isSome = true → ∀ (ls : Array Slot) (ws : va_W) (H : Heap) (locs : List Loc) (Dd K : Int32), kW γ A ws s H locs → lv_has ls 6 [(0, .ref a0), (1, .int J), (2, .int Dd), (3, .int K)] → Dd.toInt = (st.length : Int) → K.toInt = (k : Int) → qH mD γ adr (fun _ _ => False) ws → mX ws → qK mD mn_92.2.2.2.2.2 w0 ws → (∀ n k av, (n, k, av) ∈ wB st → qval ws (n, k, 0, 0) = some av.2.2) → W p l e R s m args below meth cd H locs 0 0 Q (F0 m 24 ls []) := by
  intro n
  induction n with
  | zero => exact w_st hB hR hret hcon hj hJ hH0 ha0 ht ht2 0 (fun n' h => by omega)
  | succ n ih => exact w_st hB hR hret hcon hj hJ hH0 ha0 ht ht2 (n + 1) (fun n' h => by cases h; exact ih)
end WK
theorem ms_92 (γ : kΓ) (l : Launch) : qSem γ l mD mX mMT mn_92 := by
  have hcon : ∀ c ∈ [mn_89, mn_90, mn_91], qSem γ l mD mX mMT c := (q_f1 (m_up rfl (ms_89 γ l)) (q_f1 (m_up rfl (ms_90 γ l)) (q_f1 (m_up rfl (ms_91 γ l)) q_f0)))
  refine ⟨_, rfl, fun adr ws av hp => ?_⟩
  obtain ⟨p1, p2, p3, p4, p5⟩ := hp
  match av, p3 with
  | [v0, v1], ⟨hv0, hv1, _⟩ =>
    obtain ⟨a0, rfl, ha0⟩ := hv0.2.2 rfl
    obtain ⟨J, rfl, hJ⟩ := hv1.1 rfl
    have hJ : 0 ≤ J.toInt ∧ J.toInt ≤ 1 := hJ
    refine k_ofW (by decide) (by show 2 ≤ _; decide) ?_
    intro p e s m below meth cd A ls hC hr hlocks hname hw hl
    have hret : ∀ σ : qσ, qRt (γ, p, l, e, { frames := mn_92.1.2.1, cells := 0, slots := 0, locals := mn_92.1.2.2 }, s, m, [Value.ref a0, .int J].toArray, below, meth, cd, MQ below (kQ γ A (qPost mD γ mX mn_92 adr ws [.ref a0, .int J])) [Value.ref a0, .int J].toArray s 0 0 A, (cX12_worked, 6, RX12), A, mD, adr, mX, mn_92.2.2.2.2.2, ws, σ) 1 (qPost mD γ mX mn_92 adr ws [.ref a0, .int J]) := fun σ => q_rt hC hlocks hr (.inr (.inl ⟨rfl, rfl⟩)) σ
    have ha : adr[0]? = some a0 := by
      rcases ha0 with ⟨h1, -⟩ | ⟨q, h1, h2⟩
      · exact absurd h1 (by decide)
      · have := (q_Dok mDok).2.2.1 q 0 h1 (by decide)
        rw [← this]; exact h2
    have key : ∀ (j : Nat), j < 2 → J.toInt = (j : Int) → qrun mD mn_92.2.2.2.2.2 mXr mtb_RX12 mMT [mn_89, mn_90, mn_91] 2 43 6 1 mn_92 [(3, 0, 0), (0, 0, 0)] [] pg_X12_worked [] [] (qgo mD mn_92.2.2.2.2.2 mXr mtb_RX12 mMT [mn_89, mn_90, mn_91] 2 43 6 1 mn_92 [(3, 0, 0), (0, 0, 0)] [] pg_X12_worked [] [] 1 [] [(24, wC0 j, (0, []))] 4 none 600) (wE j) 0 = true → W p l e { frames := mn_92.1.2.1, cells := 0, slots := 0, locals := mn_92.1.2.2 } s m [Value.ref a0, .int J].toArray below meth cd s.heap [] 0 0 (MQ below (kQ γ A (qPost mD γ mX mn_92 adr ws [.ref a0, .int J])) [Value.ref a0, .int J].toArray s 0 0 A) (F0 m 0 ls []) := by
      intro j hj hJj hs
      have hE : qEn (qsl [(j : Int)]) ws [.ref a0, .int J] [(3, 0, 0), (0, 0, 0)] [] mn_92 := by
        refine ⟨fun i a ha h1 => ?_, trivial⟩
        match i, ha with
        | 0, ha => cases ha; omega
        | 1, ha => cases ha; exact ⟨J, rfl, by rw [hJj]; simp [qvl, qsl]⟩
      refine q_seg (σ := qsl [(j : Int)]) (ρ := qr0 mD adr) (av := [.ref a0, .int J]) (lv := lv_args 0 [Value.ref a0, .int J]) hC (q_Dok mDok) rfl (m_xok adr) mtk_RX12 hcon ⟨Nat.le_refl _, Nat.le_refl _⟩ pk_X12_worked hE (hret _) hs ?_ hw hl ?_ ?_ ?_ p2 (fun q g a c a' c' _ h1 h2 k _ => by rw [h1] at h2; cases h2; rfl)
      · intro kk hkk
        rw [List.mem_singleton] at hkk
        subst hkk
        intro σ2 ρ2 lv2 st2 ls2 ws2 H2 locs2 hw2 hl2 hN2 hF2 hM2 hx2' hK2' hσ
        have hst2 := q_l0 hF2.2
        subst hst2
        obtain ⟨⟨i0, v0⟩, ⟨i1, v1⟩, ⟨i2, v2⟩, ⟨i3, v3⟩, rfl, ⟨e0, r0⟩, ⟨e1, r1⟩, ⟨e2, r2⟩, ⟨e3, r3⟩⟩ := q_l4 hF2.1
        simp only at e0 e1 e2 e3
        subst e0; subst e1; subst e2; subst e3
        obtain ⟨b, rfl, hb⟩ := q_r3 r0
        obtain ⟨y1, u1, rfl, hu1, hy1⟩ := q_r0 r1
        obtain ⟨y2, rfl, hy2⟩ := q_r1 r2
        obtain ⟨y3, u3, rfl, hu3, hy3⟩ := q_r0 r3
        have s0 := hσ 0 (j : Int) (by decide) rfl
        rw [s0] at hu1; cases hu1
        have hb2 : b = a0 := by
          have := hM2.1 0 (by decide)
          rw [hb, ha] at this
          exact Option.some.inj this
        subst hb2
        have hyJ : y1 = J := Int32.toInt_inj.mp (by rw [hy1, hJj]; omega)
        subst hyJ
        obtain ⟨X1, Y1, z1, z2, z3⟩ := hN2.2.2.1 2 1 1 List.mem_cons_self
        rw [hu3] at z2; cases z2
        have hHs : qH mD γ adr (fun _ _ => False) ws2 := by
          refine ⟨hM2.2.2.2.2.1, hM2.2.2.2.2.2.1, fun q g a c hg hc => ?_⟩
          obtain ⟨r, r1, r2, r3⟩ := hM2.2.2.2.2.2.2 q g a c hg hc
          exact ⟨r, r1, r2, fun k hk => (r3 k hk).elim (fun ⟨n', z1, _⟩ => by cases z1) .inr⟩
        obtain ⟨f, f1, f2⟩ := q_gvM hM2 hw2.2.1.1 (n := 9) (k := j) (av := (0, 1, 0)) (by decide) (by omega) rfl List.mem_cons_self
        obtain ⟨t, t1, t2⟩ := q_gvM hM2 hw2.2.1.1 (n := 10) (k := j) (av := (0, 2, 0)) (by decide) (by omega) rfl (List.mem_cons_of_mem _ List.mem_cons_self)
        have f3 : f = u3 := by unfold qvl at f2; rw [if_pos rfl] at f2; simp only [hu3, Option.map_some, Option.some.injEq] at f2; omega
        have t3 : t = X1 := by unfold qvl at t2; rw [if_pos rfl] at t2; simp only [z1, Option.map_some, Option.some.injEq] at t2; omega
        subst f3; subst t3
        have f0 : qval ws (9, j, 0, 0) = some f := by rw [← q_Kval p1 hHs hK2' (g := 9) (by decide +kernel) (by rfl)]; exact f1
        have t0 : qval ws (10, j, 0, 0) = some t := by rw [← q_Kval p1 hHs hK2' (g := 10) (by decide +kernel) (by rfl)]; exact t1
        have hX2 := p2.1 j hj
        unfold mX2 at hX2
        rw [m_gv f0, m_gv t0] at hX2
        obtain ⟨x1, x2, x3⟩ := hX2 (by omega)
        obtain ⟨F, hF⟩ := Int.eq_ofNat_of_zero_le x1
        obtain ⟨T, hT⟩ := Int.eq_ofNat_of_zero_le (show 0 ≤ t by omega)
        subst hF; subst hT
        have e9 : ((T : Int) - (F : Int)).toNat = (T - F - 1) + 1 := by omega
        rw [e9, Int.toNat_natCast] at x3
        exact w_loop hC ⟨Nat.le_refl _, Nat.le_refl _⟩ hret hcon hj hJj p1 ha t0 (by omega) (T - F - 1) [] F (by decide) (by omega) x3 ls2 ws2 H2 locs2 y2 y3 hw2 hl2 hy2 (by rw [hy3]; simp) hHs hx2' hK2' (fun n k av hm => by cases hm)
      · refine q_Nof ⟨⟨Int.le_refl _, Int.le_refl _⟩, trivial⟩ (fun a b d hm => by cases hm)
      · refine ⟨⟨⟨rfl, .inr (.inr (.inr ⟨rfl, a0, rfl, ?_⟩))⟩, ⟨rfl, .inl ⟨rfl, J, (j : Int), rfl, rfl, by rw [hJj]; simp⟩⟩, trivial⟩, trivial⟩
        show qr0 mD adr 0 = some a0
        unfold qr0
        rw [if_pos (by decide)]
        exact ha
      · exact q_Mof p1 (fun n k' av hm => by cases hm)
    have hj2 : J.toInt = ((0 : Nat) : Int) ∨ J.toInt = ((1 : Nat) : Int) := by omega
    rcases hj2 with h | h
    · exact key 0 (by decide) h w_e0
    · exact key 1 (by decide) h w_e1

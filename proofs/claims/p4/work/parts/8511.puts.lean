/-! puts: told place by place -/
def xPuts (v : Nat) : qCon := ((16, 0, 0), [(2, 0, 0), (0, 0, 10099)], [(0, 20, (v : Int), (v : Int))], [], [(none, [(0, 20, (v : Int) + 1, (v : Int) + 1), (11, v, 0, 10099)], [], [(2, 4, 0), (4, 2, 0)], none)], [(0, 20, 20), (11, v, v)])
def xPchk (v : Nat) : Bool := qchk mD [] mtb_RX12 mMT [] 2 0 (xPuts v) pg_X12_puts [] [] [] 100
theorem x_p0 : ((List.range 250).all fun i => xPchk (1000 + i)) = true := by decide +kernel
theorem x_p1 : ((List.range 250).all fun i => xPchk (1250 + i)) = true := by decide +kernel
theorem x_p2 : ((List.range 250).all fun i => xPchk (1500 + i)) = true := by decide +kernel
theorem x_p3 : ((List.range 250).all fun i => xPchk (1750 + i)) = true := by decide +kernel
theorem x_pc {v : Nat} (h1 : 1000 ≤ v) (h2 : v < 2000) : xPchk v = true := by
  by_cases a1 : v < 1250
  · have := List.all_eq_true.mp x_p0 (v - 1000) (List.mem_range.mpr (by omega))
    rwa [show 1000 + (v - 1000) = v by omega] at this
  by_cases a2 : v < 1500
  · have := List.all_eq_true.mp x_p1 (v - 1250) (List.mem_range.mpr (by omega))
    rwa [show 1250 + (v - 1250) = v by omega] at this
  by_cases a3 : v < 1750
  · have := List.all_eq_true.mp x_p2 (v - 1500) (List.mem_range.mpr (by omega))
    rwa [show 1500 + (v - 1500) = v by omega] at this
  have := List.all_eq_true.mp x_p3 (v - 1750) (List.mem_range.mpr (by omega))
  rwa [show 1750 + (v - 1750) = v by omega] at this
theorem x_puts (γ : kΓ) (l : Launch) {v : Nat} (h1 : 1000 ≤ v) (h2 : v < 2000) : qSem γ l mD (fun _ => True) mMT (xPuts v) := q_sem (xr := []) (tb := mtb_RX12) (B := []) (rk := 0) (T := pg_X12_puts) (sps := []) (cuts := []) (fu := 100) (y := (yX12_puts, cX12_puts, 2, none)) mDok rfl (by decide) (.inl ⟨rfl, rfl⟩) (fun _ _ _ _ _ _ _ _ _ _ _ => trivial) mtk_RX12 q_f0 pk_X12_puts (x_pc h1 h2)
theorem m_snoc (g : Nat → Int) : ∀ (n f : Nat) (s : List Nat), mRun g (n + 1) f s = (mRun g n f s).bind (fun s' => mDl s' (g (f + n)))
  | 0, f, s => by
    show (mDl s (g f)).bind (mRun g 0 (f + 1)) = (some s).bind (fun s' => mDl s' (g (f + 0)))
    rw [Option.bind_some, Nat.add_zero]
    cases mDl s (g f) <;> rfl
  | n + 1, f, s => by
    show (mDl s (g f)).bind (mRun g (n + 1) (f + 1)) = ((mDl s (g f)).bind (mRun g n (f + 1))).bind (fun s' => mDl s' (g (f + (n + 1))))
    cases mDl s (g f) with
    | none => rfl
    | some s1 =>
      rw [Option.bind_some, Option.bind_some, m_snoc g n (f + 1) s1, show f + 1 + n = f + (n + 1) by omega]
theorem m_runc {g g' : Nat → Int} : ∀ (n f : Nat) (s : List Nat), (∀ i, f ≤ i → i < f + n → g' i = g i) → mRun g' n f s = mRun g n f s
  | 0, _, _, _ => rfl
  | n + 1, f, s, h => by
    show (mDl s (g' f)).bind (mRun g' n (f + 1)) = (mDl s (g f)).bind (mRun g n (f + 1))
    rw [h f (Nat.le_refl _) (by omega)]
    have : mRun g' n (f + 1) = mRun g n (f + 1) := funext (fun s1 => m_runc n (f + 1) s1 (fun i h1 h2 => h i (by omega) (by omega)))
    rw [this]
theorem m_get1 {ws w1 : va_W} (he : ws.map Prod.fst = w1.map Prod.fst) {q k : Nat} (h : ∀ (a a' : Nat) (c c' : va_E), ws[q]? = some (a, c) → w1[q]? = some (a', c') → qrd c' k = qrd c k) : mGet w1 q k = mGet ws q k := by
  unfold mGet
  have hl : ws.length = w1.length := by have := congrArg List.length he; simpa using this
  cases h1 : ws[q]? with
  | none =>
    have : w1[q]? = none := by rw [List.getElem?_eq_none_iff] at h1 ⊢; omega
    rw [this]
  | some c =>
    cases h2 : w1[q]? with
    | none => rw [List.getElem?_eq_none_iff] at h2; have := (List.getElem?_eq_some_iff.mp h1).1; omega
    | some c' =>
      simp only
      rw [h c.1 c'.1 c.2 c'.2 h1 h2]
/-- the codes from f on are in order, what is open behind them is st; those ahead of f are as they were -/
def rX (f : Nat) (c0 : Nat → Int) (st : List Nat) (ws : va_W) : Prop := (f : Int) ≤ mGet ws 0 20 ∧ mGet ws 0 20 ≤ 2000 ∧ (∀ i, i < f → mGet ws 11 i = c0 i) ∧ mRun (mGet ws 11) (mGet ws 0 20 - f).toNat f [] = some st
def rDp : qMods := [(11, 0, 1999), (0, 20, 20)]
theorem r_dep {f : Nat} {c0 : Nat → Int} {st : List Nat} : qdepS mD rDp (rX f c0 st) := by
  intro ws w1 he h hx
  have e0 : mGet w1 0 20 = mGet ws 0 20 := m_get1 he (fun a a' c c' h1 h2 => h 0 0 a a' c c' (by decide +kernel) h1 h2 20 (by decide))
  have e1 : ∀ i, i < 2000 → mGet w1 11 i = mGet ws 11 i := fun i hi => m_get1 he (fun a a' c c' h1 h2 => h 11 11 a a' c c' (by decide +kernel) h1 h2 i (by
    unfold rDp qmod
    rw [List.any_cons, Bool.or_eq_true]
    left
    simp only [beq_self_eq_true, Bool.true_and, Bool.and_eq_true, Nat.ble_eq]
    omega))
  obtain ⟨x1, x2, x3, x4⟩ := hx
  refine ⟨by rw [e0]; exact x1, by rw [e0]; exact x2, fun i hi => ?_, ?_⟩
  · rw [e1 i (by omega)]; exact x3 i hi
  · rw [e0, m_runc (g := mGet ws 11) _ _ _ (fun i h1 h2 => e1 i (by omega))]
    exact x4
theorem r_xok {f : Nat} {c0 : Nat → Int} {st : List Nat} (adr : List Nat) (ws : va_W) (q g a : Nat) (c : va_E) (hg : mD.1[q]? = some g) (hx : ¬ g ∈ ([0, 11] : List Nat)) (he : ws.map Prod.fst = adr) (ha : adr[q]? = some a) (h : rX f c0 st ws) : rX f c0 st (ws.set q (a, c)) := by
  have hd : qdep mD [0, 11] (rX f c0 st) := fun ws w1 he h hx => r_dep ws w1 he (fun q g a a' c c' hg h1 h2 k hk => h q g a a' c c' hg (by
    unfold rDp qmod at hk
    simp only [List.any_cons, List.any_nil, Bool.or_false, Bool.or_eq_true, Bool.and_eq_true, beq_iff_eq] at hk
    rcases hk with hk | hk
    · rw [← hk.1.1]; decide
    · rw [← hk.1.1]; decide) h1 h2 k) hx
  exact q_depW hd adr ws q g a c hg hx he ha h
def rPuts (κ : qIv) : qCon := ((16, 0, 0), [(2, 0, 0), (0, κ)], mn_28.2.2)
theorem r_puts (γ : kΓ) (l : Launch) {f : Nat} {c0 : Nat → Int} {st st' : List Nat} {κ : qIv} (hκ : ∀ c, qIn κ c → mDl st c = some st') (h0 : 0 ≤ κ.1) (h1 : κ.2 ≤ 10099) : qSem2 γ l mD (rX f c0 st) (fun r w => r = none ∧ rX f c0 st' w) mMT (rPuts κ) := by
  refine ⟨_, rfl, fun adr ws av hp => ?_⟩
  obtain ⟨p1, p2, p3, p4, p5⟩ := hp
  match av, p3 with
  | [v0, v1], ⟨hv0, hv1, _⟩ =>
    obtain ⟨a0, rfl, ha0⟩ := hv0.2.2 rfl
    obtain ⟨C, rfl, hC⟩ := hv1.1 rfl
    have hC : κ.1 ≤ C.toInt ∧ C.toInt ≤ κ.2 := hC
    obtain ⟨V, hV, hV1⟩ := p4 (0, 20, 1000, 2000) (.tail _ (.tail _ (.tail _ (.tail _ (.head _)))))
    obtain ⟨Bg, hBg, hB1⟩ := p4 (0, 5, 0, 999) (.tail _ (.tail _ (.head _)))
    obtain ⟨x, y, e1, e2, e3⟩ := p5 (2, 4, -1000) (.tail _ (.tail _ (.head _)))
    have e1 : qval ws (0, 5, 0, 999) = some x := e1
    have e2 : qval ws (0, 20, 1000, 2000) = some y := e2
    rw [hBg] at e1; cases e1
    rw [hV] at e2; cases e2
    have hV1 : 1000 ≤ V ∧ V ≤ 2000 := hV1
    have hB1 : 0 ≤ Bg ∧ Bg ≤ 999 := hB1
    obtain ⟨v, rfl⟩ := Int.eq_ofNat_of_zero_le (show 0 ≤ V by omega)
    have e3 : (v : Int) + (-1000) ≤ Bg := e3
    have hgv : mGet ws 0 20 = (v : Int) := m_gv (x := (v : Int)) hV
    obtain ⟨y', hy', hM⟩ := x_puts γ l (v := v) (by omega) (by omega)
    cases hy'
    refine k_imp (hM adr ws [.ref a0, .int C] ⟨p1, trivial, ⟨hv0, ⟨fun _ => ⟨C, rfl, ⟨by show (0 : Int) ≤ _; omega, by show _ ≤ (10099 : Int); omega⟩⟩, fun h => (by cases h), fun h => (by cases h)⟩, trivial⟩, fun f hf => ?_, fun f hf => (by cases hf)⟩) ?_
    · have hf := List.mem_singleton.mp hf
      subst hf
      exact ⟨(v : Int), hV, Int.le_refl _, Int.le_refl _⟩
    · intro r w1 hq
      obtain ⟨q1, q2, q3, t, t1, t2⟩ := hq
      have t1 := List.mem_singleton.mp t1
      subst t1
      obtain ⟨u1, u2, u3, u4, u5⟩ := t2
      have hr : r = none := by
        rcases u1 with ⟨_, h⟩ | ⟨_, _, h, _⟩
        · exact h
        · cases h
      subst hr
      obtain ⟨N1, n1, n2⟩ := u2 (0, 20, (v : Int) + 1, (v : Int) + 1) (.head _)
      obtain ⟨E1, g1, g2⟩ := u2 (11, v, 0, 10099) (.tail _ (.head _))
      obtain ⟨x1, y1, z1, z2, z3⟩ := u4 (2, 4, 0) (.head _)
      obtain ⟨x2, y2, z4, z5, z6⟩ := u4 (4, 2, 0) (.tail _ (.head _))
      have z1 : qval w1 (11, v, 0, 10099) = some x1 := z1
      have z2 : some C.toInt = some y1 := z2
      have z4 : some C.toInt = some x2 := z4
      have z5 : qval w1 (11, v, 0, 10099) = some y2 := z5
      cases z2; cases z4
      rw [z1] at z5; cases z5
      have n2 : (v : Int) + 1 ≤ N1 ∧ N1 ≤ (v : Int) + 1 := n2
      have hN : N1 = (v : Int) + 1 := by omega
      subst hN
      have hgv' : mGet w1 0 20 = (v : Int) + 1 := m_gv n1
      have hgc : mGet w1 11 v = C.toInt := by
        have h9 : mGet w1 11 v = x1 := m_gv (x := x1) z1
        rw [h9]
        have z3 : C.toInt + 0 ≤ x1 := z3
        have z6 : x1 + 0 ≤ C.toInt := z6
        omega
      have hgo : ∀ i, i ≠ v → mGet w1 11 i = mGet ws 11 i := fun i hi => m_get1 (p1.1.trans q1.1.symm) (fun a a' c c' h1 h2 => q3 11 11 a c a' c' (by decide +kernel) h1 h2 i (by
        show qmod [(0, 20, 20), (11, v, v)] 11 i = false
        unfold qmod
        rw [List.any_eq_false]
        intro m hm hc
        simp only [List.mem_cons, List.mem_nil_iff, or_false] at hm
        rcases hm with rfl | rfl
        · simp at hc
        · simp only [Bool.and_eq_true, Nat.ble_eq] at hc
          omega))
      obtain ⟨x1', x2', x3', x4'⟩ := p2
      rw [hgv] at x1' x4'
      refine ⟨q1, ⟨rfl, ?_, ?_, fun i hi => ?_, ?_⟩, ?_, _, .head _, .inl ⟨rfl, rfl⟩, fun q hq => ?_, fun q hq => (by cases hq), fun q hq => ?_, fun q hq => (by cases hq)⟩
      · rw [hgv']; omega
      · rw [hgv']; omega
      · rw [hgo i (by omega)]; exact x3' i hi
      · rw [hgv', show ((v : Int) + 1 - (f : Int)).toNat = (v - f) + 1 by omega, m_snoc, m_runc (g := mGet ws 11) _ _ _ (fun i h1 h2 => hgo i (by omega))]
        rw [show ((v : Int) - (f : Int)).toNat = v - f by omega] at x4'
        rw [x4', Option.bind_some, show f + (v - f) = v by omega, hgc]
        exact hκ _ hC
      · intro q g a c a' c' hg h0' h1' k hk
        refine q3 q g a c a' c' hg h0' h1' k (q_cov (ms := [(0, 20, 20), (11, 1000, 1999)]) ?_ hk)
        have b1 : Nat.ble 1000 v = true := Nat.ble_eq_true_of_le (by omega)
        have b2 : Nat.ble v 1999 = true := Nat.ble_eq_true_of_le (by omega)
        show qcov [(0, 20, 20), (11, v, v)] [(0, 20, 20), (11, 1000, 1999)] = true
        simp [qcov, b1, b2]
      · have hq := List.mem_singleton.mp hq
        subst hq
        exact ⟨_, n1, ⟨by show (1001 : Int) ≤ _; omega, by show _ ≤ (2000 : Int); omega⟩⟩
      · have hc4 : ∀ i, qpv (rPuts κ).2.2.1 [(0, 20, 1001, 2000)] ws w1 [.ref a0, .int C] i = qpv (rPuts κ).2.2.1 [(0, 20, 1001, 2000)] ws w1 [.ref a0, .int C] i := fun _ => rfl
        rcases List.mem_cons.mp hq with h | h
        · subst h
          exact ⟨(v : Int) + 1, (v : Int), n1, hV, by show (v : Int) + 1 ≤ (v : Int) + 1; omega⟩
        · have h := List.mem_singleton.mp h
          subst h
          exact ⟨(v : Int), (v : Int) + 1, hV, n1, by show (v : Int) + 1 + (-1) ≤ (v : Int); omega⟩

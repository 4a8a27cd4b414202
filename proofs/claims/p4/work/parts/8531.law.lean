/-! readsLaw -/
theorem q_rsm {γ : kΓ} {l : Launch} {D : qWd} {X : va_W → Prop} {X' : Option Value → va_W → Prop} {MT : List qMt} {c : qCon} (ha : c.2.2.2.2.1.all (fun t => t.1.isSome) = true) (h : qSem2 γ l D X X' MT c) : qSem2 γ l D X (fun r w => r.isSome = true ∧ X' r w) MT c := by
  obtain ⟨y, hy, hs⟩ := h
  refine ⟨y, hy, fun adr ws av hp => k_imp (hs adr ws av hp) (fun r w1 hq => ⟨hq.1, ⟨?_, hq.2.1⟩, hq.2.2⟩)⟩
  obtain ⟨-, -, -, t, t1, t2⟩ := hq
  have := List.all_eq_true.mp ha t t1
  rcases t2.1 with ⟨h1, h2⟩ | ⟨ty, v, h1, h2, h3⟩
  · rw [h1] at this; cases this
  · rw [h2]; rfl
def lZ (w0 w : va_W) : Prop := ∀ g, g ∈ ([9, 10, 24, 26] : List Nat) → ∀ k, mGet w g k = mGet w0 g k
theorem l_Zd {w0 : va_W} : qdep2 mD [9, 10, 24, 26] [] (lZ w0) := by
  intro ws w1 he h hx g hg k
  rw [m_get1 he (q := g) (k := k) (fun a a' c c' h1 h2 => h g g a a' c c' (by
    simp only [List.mem_cons, List.mem_nil_iff, or_false] at hg
    rcases hg with rfl | rfl | rfl | rfl <;> decide +kernel) h1 h2 k (.inl hg))]
  exact hx g hg k
theorem m_readsz (γ : kΓ) (l : Launch) (f : Nat) (c0 : Nat → Int) : qSem2 γ l mD (fun ws => mGet ws 0 20 = (f : Int) ∧ ∀ i, i < f → mGet ws 11 i = c0 i) (fun r w => ∃ st, rX f c0 st w ∧ (r = some (.int 1) → st = [])) mMT mn_30 := by
  obtain ⟨y, hy, hs⟩ := ms_30 γ l
  refine ⟨y, hy, fun adr ws av hp => k_imp (hs adr ws av ⟨hp.1, trivial, hp.2.2⟩) (fun r w1 hq => ⟨hq.1, ⟨[], ?_, fun _ => rfl⟩, hq.2.2⟩)⟩
  have e0 : mGet w1 0 20 = mGet ws 0 20 := m_K1 hp.1 hq.1 hq.2.2.1 (by decide +kernel) (by decide)
  have e1 : ∀ i, mGet w1 11 i = mGet ws 11 i := fun i => m_K1 hp.1 hq.1 hq.2.2.1 (by decide +kernel) (by simp [qmod, mn_30])
  obtain ⟨x, x1, x2⟩ := hp.2.2.2.1 (0, 20, 1000, 2000) (.tail _ (.tail _ (.tail _ (.tail _ (.head _)))))
  have x2 : 1000 ≤ x ∧ x ≤ 2000 := x2
  have e2 : mGet ws 0 20 = x := m_gv (x := x) x1
  obtain ⟨h1, h2⟩ := hp.2.1
  refine ⟨by rw [e0]; omega, by rw [e0]; omega, fun i hi => by rw [e1]; exact h2 i hi, ?_⟩
  rw [e0, h1, Int.sub_self]
  rfl
/-- a law begins -/
theorem m_yFrom {γ : kΓ} {adr : List Nat} {w w1 : va_W} {J : Nat} (hJ : 2 ≤ J ∧ J < 4) (h0 : qH mD γ adr (fun _ _ => False) w) (h1 : qH mD γ adr (fun _ _ => False) w1) (hK : qK mD [(9, J, J)] w w1) (hc : mGet w1 9 J = mGet w 0 20) (h : mY w) : mY w1 := by
  have hm : ∀ g k, g ≠ 9 ∨ k ≠ J → qmod [(9, J, J)] g k = false := by
    intro g k hgk
    unfold qmod
    rw [List.any_eq_false]
    intro m hm hc
    rw [List.mem_singleton] at hm
    subst hm
    simp only [Bool.and_eq_true, beq_iff_eq, Nat.ble_eq] at hc
    omega
  have e : ∀ g k, mD.1[g]? = some g → g ≠ 9 ∨ k ≠ J → mGet w1 g k = mGet w g k := fun g k hg hgk => m_K1 h0 h1 hK hg (hm g k hgk)
  have e0 : mGet w1 0 20 = mGet w 0 20 := e 0 20 (by decide +kernel) (by omega)
  have e11 : mGet w1 11 = mGet w 11 := funext (fun k => e 11 k (by decide +kernel) (by omega))
  refine ⟨⟨fun j hj => ?_, fun r hr k hk => ?_⟩, by rw [e0]; exact h.2.1, fun j h2 h4 => ?_⟩
  · unfold mX2
    rw [e 9 j (by decide +kernel) (by omega), e 10 j (by decide +kernel) (by omega), e11]
    exact h.1.1 j hj
  · rw [e 24 r (by decide +kernel) (by omega)] at hk
    rw [e 26 _ (by decide +kernel) (by omega)]
    exact h.1.2 r hr k hk
  · obtain ⟨y1, y2, y3⟩ := h.2.2 j h2 h4
    unfold mY2
    rw [e 10 j (by decide +kernel) (by omega), e0, e11]
    by_cases hj : j = J
    · subst hj
      rw [hc]
      exact ⟨⟨h.2.1.1, Int.le_refl _⟩, y2, fun hlt => by omega⟩
    · rw [e 9 j (by decide +kernel) (by omega)]
      exact ⟨y1, y2, y3⟩
/-- codes have come -/
theorem m_yCall {w w1 : va_W} {f : Nat} {st : List Nat} (hf : mGet w 0 20 = (f : Int)) (h : mY w) (hx : rX f (mGet w 11) st w1) (hz : lZ w w1) : mY w1 := by
  obtain ⟨x1, x2, x3, x4⟩ := hx
  have e9 : mGet w1 9 = mGet w 9 := funext (fun k => hz 9 (by decide) k)
  have e10 : mGet w1 10 = mGet w 10 := funext (fun k => hz 10 (by decide) k)
  obtain ⟨hX, ⟨hc1, hc2⟩, hY⟩ := h
  refine ⟨⟨fun j hj => ?_, fun r hr k hk => ?_⟩, ⟨by omega, x2⟩, fun j h2 h4 => ?_⟩
  · have := hX.1 j hj
    unfold mX2 at this ⊢
    rw [e9, e10]
    intro hlt
    obtain ⟨a1, a2, a3⟩ := this hlt
    refine ⟨a1, a2, ?_⟩
    rw [m_runc (g := mGet w 11) _ _ _ (fun i h1 h2 => x3 i (by omega))]
    exact a3
  · rw [hz 24 (by decide)] at hk
    rw [hz 26 (by decide)]
    exact hX.2 r hr k hk
  · obtain ⟨y1, y2, y3⟩ := hY j h2 h4
    unfold mY2
    rw [e9, e10]
    refine ⟨⟨y1.1, by omega⟩, ⟨y2.1, by omega⟩, fun hlt => ?_⟩
    rw [m_runc (g := mGet w 11) _ _ _ (fun i h1 h2 => x3 i (by omega))]
    exact y3 hlt
/-- a law is read -/
theorem m_yTo {γ : kΓ} {adr : List Nat} {w w1 : va_W} {J f : Nat} {c0 : Nat → Int} (hJ : 2 ≤ J ∧ J < 4) (h0 : qH mD γ adr (fun _ _ => False) w) (h1 : qH mD γ adr (fun _ _ => False) w1) (hK : qK mD [(10, J, J)] w w1) (hc : mGet w1 10 J = mGet w 0 20) (hf : mGet w 9 J = (f : Int)) (hx : rX f c0 [] w) (h : mY w) : mY w1 := by
  have hm : ∀ g k, g ≠ 10 ∨ k ≠ J → qmod [(10, J, J)] g k = false := by
    intro g k hgk
    unfold qmod
    rw [List.any_eq_false]
    intro m hm hc
    rw [List.mem_singleton] at hm
    subst hm
    simp only [Bool.and_eq_true, beq_iff_eq, Nat.ble_eq] at hc
    omega
  have e : ∀ g k, mD.1[g]? = some g → g ≠ 10 ∨ k ≠ J → mGet w1 g k = mGet w g k := fun g k hg hgk => m_K1 h0 h1 hK hg (hm g k hgk)
  have e0 : mGet w1 0 20 = mGet w 0 20 := e 0 20 (by decide +kernel) (by omega)
  have e11 : mGet w1 11 = mGet w 11 := funext (fun k => e 11 k (by decide +kernel) (by omega))
  refine ⟨⟨fun j hj => ?_, fun r hr k hk => ?_⟩, by rw [e0]; exact h.2.1, fun j h2 h4 => ?_⟩
  · unfold mX2
    rw [e 9 j (by decide +kernel) (by omega), e 10 j (by decide +kernel) (by omega), e11]
    exact h.1.1 j hj
  · rw [e 24 r (by decide +kernel) (by omega)] at hk
    rw [e 26 _ (by decide +kernel) (by omega)]
    exact h.1.2 r hr k hk
  · obtain ⟨y1, y2, y3⟩ := h.2.2 j h2 h4
    unfold mY2
    rw [e 9 j (by decide +kernel) (by omega), e0, e11]
    by_cases hj : j = J
    · subst hj
      rw [hc]
      refine ⟨y1, ⟨h.2.1.1, Int.le_refl _⟩, fun _ => ?_⟩
      rw [hf, Int.toNat_natCast, hx.2.2.2]
      rfl
    · rw [e 10 j (by decide +kernel) (by omega)]
      exact ⟨y1, y2, y3⟩
def lV (C : AS) : AV := match C.2.2.2.1.find? (fun e => e.1 == 0 && e.2.1 == 20) with
  | some e => e.2.2
  | none => (9, 0, 0)
def lB (J : Nat) (C : AS) : AS := (C.1, (C.2.1.1, [(3, 0, 0)]), (C.2.2.1, (9, J, (0, 4, 0)) :: C.2.2.2.1, []))
def lD (J : Nat) (C : AS) : AS := (C.1, (C.2.1.1, [lV C, (1, 0, (J : Int)), (3, 10, 0)]), C.2.2)
def lY (J : Nat) (C : AS) : AS := (C.1, (C.2.1.1, []), (C.2.2.1, (10, J, lV C) :: C.2.2.2.1, []))
theorem l_yx {f : Nat} {c0 : Nat → Int} {st : List Nat} (adr : List Nat) (ws : va_W) (q g a : Nat) (c : va_E) (hg : mD.1[q]? = some g) (hx : ¬ g ∈ (0 :: mXr)) (he : ws.map Prod.fst = adr) (ha : adr[q]? = some a) (h : mY ws ∧ rX f c0 st ws) : mY (ws.set q (a, c)) ∧ rX f c0 st (ws.set q (a, c)) :=
  ⟨m_yok adr ws q g a c hg hx he ha h.1, r_xok adr ws q g a c hg (fun h9 => hx (by
    simp only [List.mem_cons, List.mem_nil_iff, or_false] at h9
    rcases h9 with rfl | rfl <;> decide)) he ha h.2⟩
theorem q_H0c {D : qWd} {γ : kΓ} {adr : List Nat} {σ : qσ} {ρ : qρ} {M : qM} {ws : va_W} (h : M.2.2 = []) (hM : qsM D γ adr σ ρ M ws) : qH D γ adr (fun _ _ => False) ws := by
  obtain ⟨m1, m2, m3⟩ := M
  simp only at h
  subst h
  exact q_H00 hM (r := [])
theorem l_up3 {γ : kΓ} {l : Launch} {c : qCon} {f : Nat} {c0 : Nat → Int} {st : List Nat} {w0 : va_W} (h1 : qfar c.2.2.2.2.2 mXr [(0, 20, 20)] = true) (h2 : qdis c.2.2.2.2.2 rDp = true) (h3 : qfar c.2.2.2.2.2 [9, 10, 24, 26] [] = true) (h : qSem γ l mD (fun _ => True) mMT c) : qSem γ l mD (fun w => (mY w ∧ rX f c0 st w) ∧ lZ w0 w) mMT c := by
  refine q_imp h rfl (fun adr ws av hp => ⟨hp.1, trivial, hp.2.2⟩) (fun adr ws av r w1 hp hq => ⟨hq.1, ⟨⟨?_, ?_⟩, ?_⟩, hq.2.2⟩)
  · exact m_depY ws w1 (hp.1.1.trans hq.1.1.symm) (fun q g a a' c0 c1 hg h0 h1' k hk => hq.2.2.1 q g a c0 a' c1 hg h0 h1' k (q_far h1 hk)) hp.2.1.1.1
  · exact r_dep ws w1 (hp.1.1.trans hq.1.1.symm) (fun q g a a' c0 c1 hg h0 h1' k hk => hq.2.2.1 q g a c0 a' c1 hg h0 h1' k (q_dis h2 hk)) hp.2.1.1.2
  · exact l_Zd ws w1 (hp.1.1.trans hq.1.1.symm) (fun q g a a' c0 c1 hg h0 h1' k hk => hq.2.2.1 q g a c0 a' c1 hg h0 h1' k (q_far h3 hk)) hp.2.1.2
def lA0 : List qCut := [(40, (([(1, 1000), (1, 999), (0, 999), (1, 4), (1000, 1999), (1, 4), (1, 999), (2, 1000)], [(0, 1, 0), (0, 6, 1), (0, 7, 0), (1, 2, 1), (2, 4, (-1000)), (6, 1, 0), (6, 4, (-1000)), (7, 1, 1), (7, 4, (-1000)), (7, 6, 1), (6, 2, 1), (7, 2, 2)], []), ([(0, (3, 0, 0)), (1, (1, 0, 0))], [(0, 4, 0), (1, 0, 2), (3, 9, 0)]), ([], [(0, 6, (0, 5, 0)), (0, 5, (0, 6, 0)), (0, 4, (0, 7, 0)), (0, 20, (0, 4, 0)), (0, 3, (0, 0, 0))], [])), (0, [])), (40, (([(1, 1000), (1, 1000), (0, 999), (1, 4), (1000, 1999), (1, 1000), (1, 1000)], [(0, 1, 0), (0, 5, 0), (0, 6, 0), (1, 2, 1), (2, 4, (-1000)), (5, 1, 0), (5, 4, (-1000)), (6, 1, 0), (6, 4, (-1000)), (6, 5, 0), (5, 2, 1), (6, 2, 1)], []), ([(0, (3, 0, 0)), (1, (1, 0, 0))], [(0, 4, 0), (1, 0, 2), (3, 9, 0)]), ([], [(0, 6, (1, 0, 0)), (0, 5, (0, 5, 0)), (0, 4, (0, 6, 0)), (0, 20, (0, 4, 0)), (0, 3, (0, 0, 0))], [])), (0, []))]
def lF0 : List qCut := [(45, (([(1, 1000), (1, 999), (0, 999), (1, 4), (1000, 1999)], [(0, 1, 0), (1, 2, 1), (2, 4, (-1000))], []), ([(0, (3, 0, 0)), (1, (1, 0, 0))], [(1, 0, 0)]), ([], [(0, 3, (0, 0, 0))], [])), (0, [])), (45, (([(2, 1000), (1, 999), (0, 999), (1, 4), (1000, 1999), (1000, 1999), (1, 4), (2, 999), (3, 1000)], [(0, 1, 0), (0, 7, 1), (0, 8, 0), (1, 2, 1), (2, 4, (-1000)), (7, 5, (-1000)), (8, 5, (-1000)), (8, 7, 1), (7, 1, 1), (7, 2, 2), (7, 4, (-1000)), (8, 1, 2), (8, 2, 2), (8, 4, (-1000))], []), ([(0, (3, 0, 0)), (1, (1, 0, 0))], [(1, 0, 1)]), ([], [(0, 20, (0, 5, 0)), (0, 6, (0, 6, 0)), (0, 5, (0, 7, 0)), (0, 4, (0, 8, 0)), (0, 3, (0, 0, 0))], [])), (0, [])), (45, (([(1, 1000), (1, 999), (0, 999), (1, 4), (1000, 1999), (1000, 2000), (2, 1000), (2, 1000)], [(0, 1, 0), (0, 6, 0), (0, 7, 0), (1, 2, 1), (2, 4, (-1000)), (6, 5, (-1000)), (7, 5, (-1000)), (7, 6, 0), (6, 1, 1), (6, 2, 2), (6, 4, (-1000)), (7, 1, 1), (7, 2, 2), (7, 4, (-1000))], []), ([(0, (3, 0, 0)), (1, (1, 0, 0))], [(1, 0, 1)]), ([], [(0, 20, (0, 5, 0)), (0, 6, (1, 0, 0)), (0, 5, (0, 6, 0)), (0, 4, (0, 7, 0)), (0, 3, (0, 0, 0))], [])), (0, [])), (45, (([(1, 1000), (1, 1000), (0, 999), (1, 4), (1000, 1999), (1, 1000), (1, 1000)], [(0, 1, 0), (0, 5, 0), (0, 6, 0), (1, 2, 1), (2, 4, (-1000)), (5, 1, 0), (5, 2, 1), (5, 4, (-1000)), (6, 1, 0), (6, 2, 1), (6, 4, (-1000)), (6, 5, 0)], []), ([(0, (3, 0, 0)), (1, (1, 0, 0))], [(1, 0, 0)]), ([], [(0, 6, (1, 0, 0)), (0, 5, (0, 5, 0)), (0, 4, (0, 6, 0)), (0, 20, (0, 4, 0)), (0, 3, (0, 0, 0))], [])), (0, []))]
def lE0 : AS := (([(1, 1000), (1, 1000), (0, 999), (1, 4), (1000, 1999)], [(2, 4, (-1000)), (1, 2, 1), (0, 1, 0)], []), ([(0, (3, 0, 0)), (1, (1, 0, 0))], []), ([], [(0, 20, (0, 4, 0)), (0, 6, (0, 3, 0)), (0, 5, (0, 2, 0)), (0, 4, (0, 1, 0)), (0, 3, (0, 0, 0))], []))
theorem l_c1_0 : qrun mD mn_31.2.2.2.2.2 (0 :: mXr) mtb_RX12 mMT [mn_11, mn_13] 3 67 2 2 mn_31 [(3, 0, 0), (1, 0, 0)] [(0, 0, 0), (0, 1, 0), (0, 2, 0), (0, 3, 0), (0, 4, 0)] pg_X12_readsLaw [] [] (qgo mD mn_31.2.2.2.2.2 (0 :: mXr) mtb_RX12 mMT [mn_11, mn_13] 3 67 2 2 mn_31 [(3, 0, 0), (1, 0, 0)] [(0, 0, 0), (0, 1, 0), (0, 2, 0), (0, 3, 0), (0, 4, 0)] pg_X12_readsLaw [] [] 5 [] lA0 0 none 300) lE0 0 = true := by decide +kernel
theorem l_c2_0 : (lA0.all fun k => k.1 == 40 && k.2.1.2.2.2.1.contains (0, 20, (0, 4, 0)) && qrun mD [(9, 2, 2)] [] mtb_RX12 mMT [] 0 0 2 2 (qNo [(9, 2, 2)]) [] [] pg_X12_readsLaw [] [] (qgo mD [(9, 2, 2)] [] mtb_RX12 mMT [] 0 0 2 2 (qNo [(9, 2, 2)]) [] [] pg_X12_readsLaw [] [] k.2.1.1.1.length [] [(42, lB 2 k.2.1, (0, []))] 0 none 20) k.2.1 40) = true := by decide +kernel
theorem l_c3_0 : (lA0.all fun k => (match qs_call mD mn_31.2.2.2.2.2 [mn_29, mn_30] mtb_RX12.2.1 mMT 3 67 true (lB 2 k.2.1) 302 42 with
  | some L => (3 : Nat) == 3 && L.all (fun y => lF0.any (fun k' => k'.1 == y.2 && qcchk mD 5 [] 0 none y.1 k'))
  | none => false)) = true := by decide +kernel
theorem l_c4_0 : (lF0.all fun k => k.1 == 45 && (if k.2.1.2.1.2 = [(1, 0, 0)] then qrun mD mn_31.2.2.2.2.2 (0 :: mXr) mtb_RX12 mMT [mn_11, mn_13] 3 67 2 2 mn_31 [(3, 0, 0), (1, 0, 0)] [(0, 0, 0), (0, 1, 0), (0, 2, 0), (0, 3, 0), (0, 4, 0)] pg_X12_readsLaw [] [] (qgo mD mn_31.2.2.2.2.2 (0 :: mXr) mtb_RX12 mMT [mn_11, mn_13] 3 67 2 2 mn_31 [(3, 0, 0), (1, 0, 0)] [(0, 0, 0), (0, 1, 0), (0, 2, 0), (0, 3, 0), (0, 4, 0)] pg_X12_readsLaw [] [] 5 [] [] 0 none 300) k.2.1 45
  else decide (k.2.1.2.1.2 = [(1, 0, 1)]) && k.2.1.2.2.2.1.contains (0, 20, lV k.2.1) && qint (lV k.2.1) && qrun mD mn_31.2.2.2.2.2 (0 :: mXr) mtb_RX12 mMT [mn_11, mn_13] 3 67 2 2 mn_31 [(3, 0, 0), (1, 0, 0)] [(0, 0, 0), (0, 1, 0), (0, 2, 0), (0, 3, 0), (0, 4, 0)] pg_X12_readsLaw [] [] (qgo mD mn_31.2.2.2.2.2 (0 :: mXr) mtb_RX12 mMT [mn_11, mn_13] 3 67 2 2 mn_31 [(3, 0, 0), (1, 0, 0)] [(0, 0, 0), (0, 1, 0), (0, 2, 0), (0, 3, 0), (0, 4, 0)] pg_X12_readsLaw [] [] k.2.1.1.1.length [] [(61, lD 2 k.2.1, (0, []))] 0 none 300) k.2.1 45 &&
    qrun mD [(10, 2, 2)] [] mtb_RX12 mMT [] 0 0 2 2 (qNo [(10, 2, 2)]) [] [] pg_X12_readsLaw [] [] (qgo mD [(10, 2, 2)] [] mtb_RX12 mMT [] 0 0 2 2 (qNo [(10, 2, 2)]) [] [] pg_X12_readsLaw [] [] k.2.1.1.1.length [] [(62, lY 2 k.2.1, (0, []))] 0 none 20) (lD 2 k.2.1) 61 &&
    qrun mD mn_31.2.2.2.2.2 (0 :: mXr) mtb_RX12 mMT [mn_11, mn_13] 3 67 2 2 mn_31 [(3, 0, 0), (1, 0, 0)] [(0, 0, 0), (0, 1, 0), (0, 2, 0), (0, 3, 0), (0, 4, 0)] pg_X12_readsLaw [] [] (qgo mD mn_31.2.2.2.2.2 (0 :: mXr) mtb_RX12 mMT [mn_11, mn_13] 3 67 2 2 mn_31 [(3, 0, 0), (1, 0, 0)] [(0, 0, 0), (0, 1, 0), (0, 2, 0), (0, 3, 0), (0, 4, 0)] pg_X12_readsLaw [] [] 5 [] [] 0 none 300) (lY 2 k.2.1) 62)) = true := by decide +kernel
theorem my_31 (γ : kΓ) (l : Launch) : qSem γ l mD mY mMT mn_31 := by
  have hcon : ∀ c ∈ [mn_11, mn_13], qSem γ l mD mY mMT c := (q_f1 (m_upY rfl (ms_11 γ l)) (q_f1 (m_upY rfl (ms_13 γ l)) q_f0))
  refine ⟨_, rfl, fun adr ws av hp => ?_⟩
  obtain ⟨p1, p2, p3, p4, p5⟩ := hp
  match av, p3 with
  | [v0, v1], ⟨hv0, hv1, _⟩ =>
    obtain ⟨a0, rfl, ha0⟩ := hv0.2.2 rfl
    obtain ⟨J1, rfl, hJ1⟩ := hv1.1 rfl
    have hJ1 : (0 : Int) ≤ J1.toInt ∧ J1.toInt ≤ 0 := hJ1
    have ha : adr[0]? = some a0 := by
      rcases ha0 with ⟨h1, -⟩ | ⟨q, h1, h2⟩
      · exact absurd h1 (by decide)
      · have := (q_Dok mDok).2.2.1 q 0 h1 (by decide)
        rw [← this]; exact h2
    obtain ⟨x0, g0, n0⟩ := p4 (0, 3, 1, 1000) (.head _)
    obtain ⟨x1, g1, n1⟩ := p4 (0, 4, 1, 1000) (.tail _ (.head _))
    obtain ⟨x2, g2, n2⟩ := p4 (0, 5, 0, 999) (.tail _ (.tail _ (.head _)))
    obtain ⟨x3, g3, n3⟩ := p4 (0, 6, 1, 4) (.tail _ (.tail _ (.tail _ (.head _))))
    obtain ⟨x4, g4, n4⟩ := p4 (0, 20, 1000, 2000) (.tail _ (.tail _ (.tail _ (.tail _ (.head _)))))
    obtain ⟨E0, rfl⟩ := q_v32 g0
    obtain ⟨E1, rfl⟩ := q_v32 g1
    obtain ⟨E2, rfl⟩ := q_v32 g2
    obtain ⟨E3, rfl⟩ := q_v32 g3
    obtain ⟨E4, rfl⟩ := q_v32 g4
    obtain ⟨_, _, h1, h2, h3⟩ := p5 (0, 1, 0) (.head _)
    obtain ⟨_, _, h4, h5, h6⟩ := p5 (1, 2, 1) (.tail _ (.head _))
    obtain ⟨_, _, h7, h8, h9⟩ := p5 (2, 4, -1000) (.tail _ (.tail _ (.head _)))
    have h1 : qval ws (0, 3, 1, 1000) = some _ := h1
    have h2 : qval ws (0, 4, 1, 1000) = some _ := h2
    have h4 : qval ws (0, 4, 1, 1000) = some _ := h4
    have h5 : qval ws (0, 5, 0, 999) = some _ := h5
    have h7 : qval ws (0, 5, 0, 999) = some _ := h7
    have h8 : qval ws (0, 20, 1000, 2000) = some _ := h8
    rw [g0] at h1; cases h1
    rw [g1] at h2; cases h2
    rw [g1] at h4; cases h4
    rw [g2] at h5; cases h5
    rw [g2] at h7; cases h7
    rw [g4] at h8; cases h8
    have n4 : 1000 ≤ E4.toInt ∧ E4.toInt ≤ 2000 := n4
    have n2 : 0 ≤ E2.toInt ∧ E2.toInt ≤ 999 := n2
    have h9 : E4.toInt + (-1000) ≤ E2.toInt := h9
    obtain ⟨f, hf⟩ := Int.eq_ofNat_of_zero_le (show 0 ≤ E4.toInt by omega)
    have hE : ∀ σ : qσ, σ 0 = some E0.toInt → σ 1 = some E1.toInt → σ 2 = some E2.toInt → σ 3 = some E3.toInt → σ 4 = some E4.toInt → qEn σ ws [.ref a0, .int J1] [(3, 0, 0), (1, 0, 0)] [(0, 0, 0), (0, 1, 0), (0, 2, 0), (0, 3, 0), (0, 4, 0)] mn_31 := by
      intro σ k0 k1 k2 k3 k4
      refine ⟨fun i a ha h1 => ?_, ⟨E0, g0, by simp [qvl, k0]⟩, ⟨E1, g1, by simp [qvl, k1]⟩, ⟨E2, g2, by simp [qvl, k2]⟩, ⟨E3, g3, by simp [qvl, k3]⟩, ⟨E4, g4, by simp [qvl, k4]⟩, trivial⟩
      match i, ha with
      | 0, ha => cases ha; omega
      | 1, ha => cases ha; exact ⟨J1, rfl, by simp [qvl]; omega⟩
    refine k_ofW (by decide) (by show 2 ≤ _; decide) ?_
    intro p e s m below meth cd A ls hC hr hlocks hname hw hl
    have hret : ∀ σ : qσ, qRt (γ, p, l, e, { frames := mn_31.1.2.1, cells := 0, slots := 0, locals := mn_31.1.2.2 }, s, m, [Value.ref a0, .int J1].toArray, below, meth, cd, MQ below (kQ γ A (qPost mD γ mY mn_31 adr ws [.ref a0, .int J1])) [Value.ref a0, .int J1].toArray s 0 0 A, (cX12_readsLaw, 2, RX12), A, mD, adr, mY, mn_31.2.2.2.2.2, ws, σ) 2 (qPost mD γ mY mn_31 adr ws [.ref a0, .int J1]) := fun σ => q_rt hC hlocks hr (.inr (.inr (.inl ⟨rfl, rfl⟩))) σ
    refine q_seg (σ := qsl [E0.toInt, E1.toInt, E2.toInt, E3.toInt, E4.toInt]) (ρ := qr0 mD adr) (av := [.ref a0, .int J1]) (lv := lv_args 0 [Value.ref a0, .int J1]) hC (q_Dok mDok) rfl (m_yok adr) mtk_RX12 hcon ⟨Nat.le_refl _, Nat.le_refl _⟩ pk_X12_readsLaw (hE _ rfl rfl rfl rfl rfl) (hret _) l_c1_0 ?_ hw hl ?_ ?_ ?_ p2 q_K0
    · intro k hk σ2 ρ2 lv2 st2 ls2 ws2 H2 locs2 hw2 hl2 hN2 hF2 hM2 hY2 hK2 hσ2
      have c2 := List.all_eq_true.mp l_c2_0 k hk
      have c3 := List.all_eq_true.mp l_c3_0 k hk
      simp only [Bool.and_eq_true, beq_iff_eq] at c2
      obtain ⟨⟨e40, c20⟩, c2⟩ := c2
      rw [e40]
      have hM2' : k.2.1.2.2 = (k.2.1.2.2.1, k.2.1.2.2.2.1, k.2.1.2.2.2.2) := rfl
      have hH2 : qH mD γ adr (fun _ _ => False) ws2 := q_H0c (by
        have : ∀ k ∈ lA0, k.2.1.2.2.2.2 = [] := by decide +kernel
        exact this k hk) hM2
      have s2_0 := hσ2 0 _ (by decide) rfl
      have s2_1 := hσ2 1 _ (by decide) rfl
      have s2_2 := hσ2 2 _ (by decide) rfl
      have s2_3 := hσ2 3 _ (by decide) rfl
      have s2_4 := hσ2 4 _ (by decide) rfl
      have s2_4 : σ2 4 = some E4.toInt := s2_4
      have hlen : ∀ v z, σ2 v = some z → v < k.2.1.1.1.length := fun v z hz => by
        rcases Nat.lt_or_ge v k.2.1.1.1.length with h | h
        · exact h
        · rw [hN2.1 v h] at hz; cases hz
      have hcode2 : mGet ws2 0 20 = E4.toInt := m_gv (r_gv hM2 hw2.2.1.1 (by decide) (by decide) (by simpa using c20) s2_4)
      refine q_seg (c := qNo [(9, 2, 2)]) (w0 := ws2) (av := []) (X := fun _ => True) (σ := σ2) (ρ := ρ2) hC (q_Dok mDok) rfl (fun _ _ _ _ _ _ _ _ _ _ => trivial) mtk_RX12 q_f0 ⟨Nat.zero_le _, Nat.zero_le _⟩ pk_X12_readsLaw q_noE q_noR c2 ?_ hw2 hl2 hN2 hF2 hM2 trivial q_K0
      intro k' hk'
      rw [List.mem_singleton] at hk'
      subst hk'
      intro σ3 ρ3 lv3 st3 ls3 ws3 H3 locs3 hw3 hl3 hN3 hF3 hM3 hx3 hK3 hσ3
      have hH3 := q_H00 (m := (9, 2, (0, 4, 0)) :: k.2.1.2.2.2.1) hM3 (r := [])
      have s3 : ∀ v z, σ2 v = some z → σ3 v = some z := fun v z hz => hσ3 v z (hlen v z hz) hz
      have hfr : mGet ws3 9 2 = E4.toInt := m_gv (r_gv hM3 hw3.2.1.1 (by decide) (by decide) (.head _) (s3 4 _ s2_4))
      have hY3 : mY ws3 := m_yFrom (by decide) hH2 hH3 hK3 (by rw [hfr, hcode2]) hY2
      have hcode3 : mGet ws3 0 20 = (f : Int) := by
        rw [← hf]
        exact m_gv (r_gv hM3 hw3.2.1.1 (by decide) (by decide) (List.mem_cons_of_mem _ (by simpa using c20)) (s3 4 _ s2_4))
      have hi42 : qat pg_X12_readsLaw 42 = some (.invokevirtual 302, 3) := rfl
      refine q_segC (σ := σ3) (ρ := ρ3) (w0 := ws) (X := fun w => (mGet w 0 20 = (f : Int) ∧ ∀ i, i < f → mGet w 11 i = mGet ws3 11 i) ∧ lZ ws3 w) (X' := fun r w => r.isSome = true ∧ ((∃ st, rX f (mGet ws3 11) st w ∧ (r = some (.int 1) → st = [])) ∧ lZ ws3 w)) hC (q_Dok mDok) mtk_RX12 (q_f1 (q_rsm rfl (q_fr2 l_Zd rfl (m_reads γ l f _))) (q_f1 (q_rsm rfl (q_fr2 l_Zd rfl (m_readsz γ l f _))) q_f0)) ⟨Nat.le_refl _, Nat.le_refl _⟩ pk_X12_readsLaw hi42 c3 ?_ hw3 hl3 hN3 hF3 hM3 ⟨⟨hcode3, fun _ _ => rfl⟩, fun _ _ _ => rfl⟩ (q_Kt hH2 (by decide) hK2 hK3)
      intro k'' hk'' σ4 ρ4 lv4 r st4 ls4 ws4 H4 locs4 hw4 hl4 hN4 hF4 hM4 hX4 hK4 hσ4
      obtain ⟨hrs, ⟨st, hrx, hr1⟩, hz⟩ := hX4
      have hY4 : mY ws4 := m_yCall hcode3 hY3 hrx hz
      have c4 := List.all_eq_true.mp l_c4_0 k'' hk''
      simp only [Bool.and_eq_true, beq_iff_eq] at c4
      obtain ⟨e45, c4⟩ := c4
      rw [e45]
      have s4_0 := hσ4 0 _ (by decide) (s3 0 _ s2_0)
      have s4_1 := hσ4 1 _ (by decide) (s3 1 _ s2_1)
      have s4_2 := hσ4 2 _ (by decide) (s3 2 _ s2_2)
      have s4_3 := hσ4 3 _ (by decide) (s3 3 _ s2_3)
      have s4_4 := hσ4 4 _ (by decide) (s3 4 _ s2_4)
      split at c4
      · exact q_seg (σ := σ4) (ρ := ρ4) (av := [.ref a0, .int J1]) hC (q_Dok mDok) rfl (m_yok adr) mtk_RX12 hcon ⟨Nat.le_refl _, Nat.le_refl _⟩ pk_X12_readsLaw (hE _ s4_0 s4_1 s4_2 s4_3 s4_4) (hret _) c4 (fun k hk => by cases hk) hw4 hl4 hN4 hF4 hM4 hY4 hK4
      · simp only [Bool.and_eq_true, decide_eq_true_eq] at c4
        obtain ⟨⟨⟨⟨⟨d1, d2⟩, d3⟩, d4⟩, d5⟩, d6⟩ := c4
        have hst4 : st4 = [] ∧ r = some (.int 1) := by
          cases r with
          | none => cases hrs
          | some v =>
            have hq := hF4.2
            rw [d1] at hq
            match st4, hq with
            | [], ⟨hv, _⟩ =>
              obtain ⟨y, rfl, hy⟩ := q_r1 hv
              exact ⟨rfl, by rw [show y = 1 from Int32.toInt_inj.mp hy]⟩
        obtain ⟨rfl, rfl⟩ := hst4
        have hst0 := hr1 rfl
        subst hst0
        have hlen4 : ∀ v z, σ4 v = some z → v < k''.2.1.1.1.length := fun v z hz => by
          rcases Nat.lt_or_ge v k''.2.1.1.1.length with h | h
          · exact h
          · rw [hN4.1 v h] at hz; cases hz
        have hret2 : ∀ σ : qσ, qRt (γ, p, l, e, { frames := mn_31.1.2.1, cells := 0, slots := 0, locals := mn_31.1.2.2 }, s, m, [Value.ref a0, .int J1].toArray, below, meth, cd, MQ below (kQ γ A (qPost mD γ mY mn_31 adr ws [.ref a0, .int J1])) [Value.ref a0, .int J1].toArray s 0 0 A, (cX12_readsLaw, 2, RX12), A, mD, adr, (fun w => (mY w ∧ rX f (mGet ws3 11) [] w) ∧ lZ ws3 w), mn_31.2.2.2.2.2, ws, σ) 2 (qPost mD γ (fun w => (mY w ∧ rX f (mGet ws3 11) [] w) ∧ lZ ws3 w) mn_31 adr ws [.ref a0, .int J1]) := by
          intro σ
          exact q_rtX (hret σ) (fun r w c => ⟨c.1, c.2.1.1.1, c.2.2⟩)
        refine q_seg (σ := σ4) (ρ := ρ4) (av := [.ref a0, .int J1]) (X := fun w => (mY w ∧ rX f (mGet ws3 11) [] w) ∧ lZ ws3 w) hC (q_Dok mDok) rfl (fun ws q g a c hg hx he ha h => ⟨l_yx adr ws q g a c hg hx he ha h.1, fun g' hg' k => by
          have hd : qdep mD (0 :: mXr) (lZ ws3) := fun ws w1 he h hx => l_Zd ws w1 he (fun q g a a' c c' hg h1 h2 k hk => h q g a a' c c' hg (by
            rcases hk with hk | hk
            · simp only [List.mem_cons, List.mem_nil_iff, or_false] at hk
              rcases hk with rfl | rfl | rfl | rfl <;> decide
            · cases hk) h1 h2 k) hx
          exact q_depW hd adr ws q g a c hg hx he ha h.2 g' hg' k⟩) mtk_RX12 (B := [mn_11, mn_13]) (q_f1 (l_up3 rfl rfl rfl (ms_11 γ l)) (q_f1 (l_up3 rfl rfl rfl (ms_13 γ l)) q_f0)) ⟨Nat.le_refl _, Nat.le_refl _⟩ pk_X12_readsLaw (hE _ s4_0 s4_1 s4_2 s4_3 s4_4) (hret2 _) d4 ?_ hw4 hl4 hN4 hF4 hM4 ⟨⟨hY4, hrx⟩, hz⟩ hK4
        intro k5 hk5
        rw [List.mem_singleton] at hk5
        subst hk5
        intro σ5 ρ5 lv5 st5 ls5 ws5 H5 locs5 hw5 hl5 hN5 hF5 hM5 hx5 hK5 hσ5
        have hH5 : qH mD γ adr (fun _ _ => False) ws5 := q_H0c (by
          have : ∀ k ∈ lF0, k.2.1.2.2.2.2 = [] := by decide +kernel
          exact this k'' hk'') hM5
        have s5 : ∀ v z, σ4 v = some z → σ5 v = some z := fun v z hz => hσ5 v z (hlen4 v z hz) hz
        refine q_seg (c := qNo [(10, 2, 2)]) (w0 := ws5) (av := []) (X := fun _ => True) (σ := σ5) (ρ := ρ5) hC (q_Dok mDok) rfl (fun _ _ _ _ _ _ _ _ _ _ => trivial) mtk_RX12 q_f0 ⟨Nat.zero_le _, Nat.zero_le _⟩ pk_X12_readsLaw q_noE q_noR d5 ?_ hw5 hl5 hN5 hF5 hM5 trivial q_K0
        intro k6 hk6
        rw [List.mem_singleton] at hk6
        subst hk6
        intro σ6 ρ6 lv6 st6 ls6 ws6 H6 locs6 hw6 hl6 hN6 hF6 hM6 hx6 hK6 hσ6
        have hH6 := q_H00 (m := (10, 2, lV k''.2.1) :: k''.2.1.2.2.2.1) hM6 (r := [])
        have hlen5 : ∀ v z, σ5 v = some z → v < k''.2.1.1.1.length := fun v z hz => by
          rcases Nat.lt_or_ge v k''.2.1.1.1.length with h | h
          · exact h
          · rw [hN5.1 v h] at hz; cases hz
        have s6 : ∀ v z, σ5 v = some z → σ6 v = some z := fun v z hz => hσ6 v z (hlen5 v z hz) hz
        obtain ⟨z1, y1, y2⟩ := q_gvM hM6 hw6.2.1.1 (n := 10) (k := 2) (av := lV k''.2.1) (by decide) (by decide) d3 (.head _)
        obtain ⟨z2, y3, y4⟩ := q_gvM hM6 hw6.2.1.1 (n := 0) (k := 20) (av := lV k''.2.1) (by decide) (by decide) d3 (List.mem_cons_of_mem _ (by simpa using d2))
        rw [y2] at y4
        cases y4
        have hto : mGet ws6 10 2 = mGet ws5 0 20 := by
          have e1 : mGet ws6 0 20 = mGet ws5 0 20 := m_K1 hH5 hH6 hK6 (by decide +kernel) (by decide)
          rw [← e1, m_gv y1, m_gv y3]
        have hY6 : mY ws6 := m_yTo (by decide) hH5 hH6 hK6 hto (by rw [hx5.2 9 (by decide), hfr, hf]) hx5.1.2 hx5.1.1
        exact q_seg (σ := σ6) (ρ := ρ6) (av := [.ref a0, .int J1]) hC (q_Dok mDok) rfl (m_yok adr) mtk_RX12 hcon ⟨Nat.le_refl _, Nat.le_refl _⟩ pk_X12_readsLaw (hE _ (s6 _ _ (s5 _ _ s4_0)) (s6 _ _ (s5 _ _ s4_1)) (s6 _ _ (s5 _ _ s4_2)) (s6 _ _ (s5 _ _ s4_3)) (s6 _ _ (s5 _ _ s4_4))) (hret _) d6 (fun k hk => by cases hk) hw6 hl6 hN6 hF6 hM6 hY6 (q_Kt hH5 (by decide) hK5 hK6)
    · refine q_Nof ⟨n0, n1, n2, n3, ⟨n4.1, by show _ ≤ (1999 : Int); omega⟩, trivial⟩ (fun a b d hm => ?_)
      simp only [List.mem_cons, List.mem_nil_iff, or_false, Prod.mk.injEq] at hm
      rcases hm with ⟨rfl, rfl, rfl⟩ | ⟨rfl, rfl, rfl⟩ | ⟨rfl, rfl, rfl⟩
      · exact ⟨_, _, rfl, rfl, h9⟩
      · exact ⟨_, _, rfl, rfl, h6⟩
      · exact ⟨_, _, rfl, rfl, h3⟩
    · refine ⟨⟨⟨rfl, .inr (.inr (.inr ⟨rfl, a0, rfl, ?_⟩))⟩, ⟨rfl, .inr (.inl ⟨rfl, J1, rfl, by show J1.toInt = (0 : Int); omega⟩)⟩, trivial⟩, trivial⟩
      show qr0 mD adr 0 = some a0
      unfold qr0
      rw [if_pos (by decide)]
      exact ha
    · refine q_Mof p1 (fun n k av hm => ?_)
      simp only [List.mem_cons, List.mem_nil_iff, or_false, Prod.mk.injEq] at hm
      rcases hm with ⟨rfl, rfl, rfl⟩ | ⟨rfl, rfl, rfl⟩ | ⟨rfl, rfl, rfl⟩ | ⟨rfl, rfl, rfl⟩ | ⟨rfl, rfl, rfl⟩
      · exact ⟨by decide, _, 20, g4, by simp [qvl, qsl], .inl ⟨by decide, rfl⟩⟩
      · exact ⟨by decide, _, 6, g3, by simp [qvl, qsl], .inl ⟨by decide, rfl⟩⟩
      · exact ⟨by decide, _, 5, g2, by simp [qvl, qsl], .inl ⟨by decide, rfl⟩⟩
      · exact ⟨by decide, _, 4, g1, by simp [qvl, qsl], .inl ⟨by decide, rfl⟩⟩
      · exact ⟨by decide, _, 3, g0, by simp [qvl, qsl], .inl ⟨by decide, rfl⟩⟩
def lA1 : List qCut := [(40, (([(1, 1000), (1, 999), (0, 999), (1, 4), (1000, 1999), (1, 4), (1, 999), (2, 1000)], [(0, 1, 0), (0, 6, 1), (0, 7, 0), (1, 2, 1), (2, 4, (-1000)), (6, 1, 0), (6, 4, (-1000)), (7, 1, 1), (7, 4, (-1000)), (7, 6, 1), (6, 2, 1), (7, 2, 2)], []), ([(0, (3, 0, 0)), (1, (1, 0, 1))], [(0, 4, 0), (1, 0, 3), (3, 9, 0)]), ([], [(0, 6, (0, 5, 0)), (0, 5, (0, 6, 0)), (0, 4, (0, 7, 0)), (0, 20, (0, 4, 0)), (0, 3, (0, 0, 0))], [])), (0, [])), (40, (([(1, 1000), (1, 1000), (0, 999), (1, 4), (1000, 1999), (1, 1000), (1, 1000)], [(0, 1, 0), (0, 5, 0), (0, 6, 0), (1, 2, 1), (2, 4, (-1000)), (5, 1, 0), (5, 4, (-1000)), (6, 1, 0), (6, 4, (-1000)), (6, 5, 0), (5, 2, 1), (6, 2, 1)], []), ([(0, (3, 0, 0)), (1, (1, 0, 1))], [(0, 4, 0), (1, 0, 3), (3, 9, 0)]), ([], [(0, 6, (1, 0, 0)), (0, 5, (0, 5, 0)), (0, 4, (0, 6, 0)), (0, 20, (0, 4, 0)), (0, 3, (0, 0, 0))], [])), (0, []))]
def lF1 : List qCut := [(45, (([(1, 1000), (1, 999), (0, 999), (1, 4), (1000, 1999)], [(0, 1, 0), (1, 2, 1), (2, 4, (-1000))], []), ([(0, (3, 0, 0)), (1, (1, 0, 1))], [(1, 0, 0)]), ([], [(0, 3, (0, 0, 0))], [])), (0, [])), (45, (([(2, 1000), (1, 999), (0, 999), (1, 4), (1000, 1999), (1000, 1999), (1, 4), (2, 999), (3, 1000)], [(0, 1, 0), (0, 7, 1), (0, 8, 0), (1, 2, 1), (2, 4, (-1000)), (7, 5, (-1000)), (8, 5, (-1000)), (8, 7, 1), (7, 1, 1), (7, 2, 2), (7, 4, (-1000)), (8, 1, 2), (8, 2, 2), (8, 4, (-1000))], []), ([(0, (3, 0, 0)), (1, (1, 0, 1))], [(1, 0, 1)]), ([], [(0, 20, (0, 5, 0)), (0, 6, (0, 6, 0)), (0, 5, (0, 7, 0)), (0, 4, (0, 8, 0)), (0, 3, (0, 0, 0))], [])), (0, [])), (45, (([(1, 1000), (1, 999), (0, 999), (1, 4), (1000, 1999), (1000, 2000), (2, 1000), (2, 1000)], [(0, 1, 0), (0, 6, 0), (0, 7, 0), (1, 2, 1), (2, 4, (-1000)), (6, 5, (-1000)), (7, 5, (-1000)), (7, 6, 0), (6, 1, 1), (6, 2, 2), (6, 4, (-1000)), (7, 1, 1), (7, 2, 2), (7, 4, (-1000))], []), ([(0, (3, 0, 0)), (1, (1, 0, 1))], [(1, 0, 1)]), ([], [(0, 20, (0, 5, 0)), (0, 6, (1, 0, 0)), (0, 5, (0, 6, 0)), (0, 4, (0, 7, 0)), (0, 3, (0, 0, 0))], [])), (0, [])), (45, (([(1, 1000), (1, 1000), (0, 999), (1, 4), (1000, 1999), (1, 1000), (1, 1000)], [(0, 1, 0), (0, 5, 0), (0, 6, 0), (1, 2, 1), (2, 4, (-1000)), (5, 1, 0), (5, 2, 1), (5, 4, (-1000)), (6, 1, 0), (6, 2, 1), (6, 4, (-1000)), (6, 5, 0)], []), ([(0, (3, 0, 0)), (1, (1, 0, 1))], [(1, 0, 0)]), ([], [(0, 6, (1, 0, 0)), (0, 5, (0, 5, 0)), (0, 4, (0, 6, 0)), (0, 20, (0, 4, 0)), (0, 3, (0, 0, 0))], [])), (0, []))]
def lE1 : AS := (([(1, 1000), (1, 1000), (0, 999), (1, 4), (1000, 1999)], [(2, 4, (-1000)), (1, 2, 1), (0, 1, 0)], []), ([(0, (3, 0, 0)), (1, (1, 0, 1))], []), ([], [(0, 20, (0, 4, 0)), (0, 6, (0, 3, 0)), (0, 5, (0, 2, 0)), (0, 4, (0, 1, 0)), (0, 3, (0, 0, 0))], []))
theorem l_c1_1 : qrun mD mn_32.2.2.2.2.2 (0 :: mXr) mtb_RX12 mMT [mn_11, mn_13] 3 67 2 2 mn_32 [(3, 0, 0), (1, 0, 1)] [(0, 0, 0), (0, 1, 0), (0, 2, 0), (0, 3, 0), (0, 4, 0)] pg_X12_readsLaw [] [] (qgo mD mn_32.2.2.2.2.2 (0 :: mXr) mtb_RX12 mMT [mn_11, mn_13] 3 67 2 2 mn_32 [(3, 0, 0), (1, 0, 1)] [(0, 0, 0), (0, 1, 0), (0, 2, 0), (0, 3, 0), (0, 4, 0)] pg_X12_readsLaw [] [] 5 [] lA1 0 none 300) lE1 0 = true := by decide +kernel
theorem l_c2_1 : (lA1.all fun k => k.1 == 40 && k.2.1.2.2.2.1.contains (0, 20, (0, 4, 0)) && qrun mD [(9, 3, 3)] [] mtb_RX12 mMT [] 0 0 2 2 (qNo [(9, 3, 3)]) [] [] pg_X12_readsLaw [] [] (qgo mD [(9, 3, 3)] [] mtb_RX12 mMT [] 0 0 2 2 (qNo [(9, 3, 3)]) [] [] pg_X12_readsLaw [] [] k.2.1.1.1.length [] [(42, lB 3 k.2.1, (0, []))] 0 none 20) k.2.1 40) = true := by decide +kernel
theorem l_c3_1 : (lA1.all fun k => (match qs_call mD mn_32.2.2.2.2.2 [mn_29, mn_30] mtb_RX12.2.1 mMT 3 67 true (lB 3 k.2.1) 302 42 with
  | some L => (3 : Nat) == 3 && L.all (fun y => lF1.any (fun k' => k'.1 == y.2 && qcchk mD 5 [] 0 none y.1 k'))
  | none => false)) = true := by decide +kernel
theorem l_c4_1 : (lF1.all fun k => k.1 == 45 && (if k.2.1.2.1.2 = [(1, 0, 0)] then qrun mD mn_32.2.2.2.2.2 (0 :: mXr) mtb_RX12 mMT [mn_11, mn_13] 3 67 2 2 mn_32 [(3, 0, 0), (1, 0, 1)] [(0, 0, 0), (0, 1, 0), (0, 2, 0), (0, 3, 0), (0, 4, 0)] pg_X12_readsLaw [] [] (qgo mD mn_32.2.2.2.2.2 (0 :: mXr) mtb_RX12 mMT [mn_11, mn_13] 3 67 2 2 mn_32 [(3, 0, 0), (1, 0, 1)] [(0, 0, 0), (0, 1, 0), (0, 2, 0), (0, 3, 0), (0, 4, 0)] pg_X12_readsLaw [] [] 5 [] [] 0 none 300) k.2.1 45
  else decide (k.2.1.2.1.2 = [(1, 0, 1)]) && k.2.1.2.2.2.1.contains (0, 20, lV k.2.1) && qint (lV k.2.1) && qrun mD mn_32.2.2.2.2.2 (0 :: mXr) mtb_RX12 mMT [mn_11, mn_13] 3 67 2 2 mn_32 [(3, 0, 0), (1, 0, 1)] [(0, 0, 0), (0, 1, 0), (0, 2, 0), (0, 3, 0), (0, 4, 0)] pg_X12_readsLaw [] [] (qgo mD mn_32.2.2.2.2.2 (0 :: mXr) mtb_RX12 mMT [mn_11, mn_13] 3 67 2 2 mn_32 [(3, 0, 0), (1, 0, 1)] [(0, 0, 0), (0, 1, 0), (0, 2, 0), (0, 3, 0), (0, 4, 0)] pg_X12_readsLaw [] [] k.2.1.1.1.length [] [(61, lD 3 k.2.1, (0, []))] 0 none 300) k.2.1 45 &&
    qrun mD [(10, 3, 3)] [] mtb_RX12 mMT [] 0 0 2 2 (qNo [(10, 3, 3)]) [] [] pg_X12_readsLaw [] [] (qgo mD [(10, 3, 3)] [] mtb_RX12 mMT [] 0 0 2 2 (qNo [(10, 3, 3)]) [] [] pg_X12_readsLaw [] [] k.2.1.1.1.length [] [(62, lY 3 k.2.1, (0, []))] 0 none 20) (lD 3 k.2.1) 61 &&
    qrun mD mn_32.2.2.2.2.2 (0 :: mXr) mtb_RX12 mMT [mn_11, mn_13] 3 67 2 2 mn_32 [(3, 0, 0), (1, 0, 1)] [(0, 0, 0), (0, 1, 0), (0, 2, 0), (0, 3, 0), (0, 4, 0)] pg_X12_readsLaw [] [] (qgo mD mn_32.2.2.2.2.2 (0 :: mXr) mtb_RX12 mMT [mn_11, mn_13] 3 67 2 2 mn_32 [(3, 0, 0), (1, 0, 1)] [(0, 0, 0), (0, 1, 0), (0, 2, 0), (0, 3, 0), (0, 4, 0)] pg_X12_readsLaw [] [] 5 [] [] 0 none 300) (lY 3 k.2.1) 62)) = true := by decide +kernel
theorem my_32 (γ : kΓ) (l : Launch) : qSem γ l mD mY mMT mn_32 := by
  have hcon : ∀ c ∈ [mn_11, mn_13], qSem γ l mD mY mMT c := (q_f1 (m_upY rfl (ms_11 γ l)) (q_f1 (m_upY rfl (ms_13 γ l)) q_f0))
  refine ⟨_, rfl, fun adr ws av hp => ?_⟩
  obtain ⟨p1, p2, p3, p4, p5⟩ := hp
  match av, p3 with
  | [v0, v1], ⟨hv0, hv1, _⟩ =>
    obtain ⟨a0, rfl, ha0⟩ := hv0.2.2 rfl
    obtain ⟨J1, rfl, hJ1⟩ := hv1.1 rfl
    have hJ1 : (1 : Int) ≤ J1.toInt ∧ J1.toInt ≤ 1 := hJ1
    have ha : adr[0]? = some a0 := by
      rcases ha0 with ⟨h1, -⟩ | ⟨q, h1, h2⟩
      · exact absurd h1 (by decide)
      · have := (q_Dok mDok).2.2.1 q 0 h1 (by decide)
        rw [← this]; exact h2
    obtain ⟨x0, g0, n0⟩ := p4 (0, 3, 1, 1000) (.head _)
    obtain ⟨x1, g1, n1⟩ := p4 (0, 4, 1, 1000) (.tail _ (.head _))
    obtain ⟨x2, g2, n2⟩ := p4 (0, 5, 0, 999) (.tail _ (.tail _ (.head _)))
    obtain ⟨x3, g3, n3⟩ := p4 (0, 6, 1, 4) (.tail _ (.tail _ (.tail _ (.head _))))
    obtain ⟨x4, g4, n4⟩ := p4 (0, 20, 1000, 2000) (.tail _ (.tail _ (.tail _ (.tail _ (.head _)))))
    obtain ⟨E0, rfl⟩ := q_v32 g0
    obtain ⟨E1, rfl⟩ := q_v32 g1
    obtain ⟨E2, rfl⟩ := q_v32 g2
    obtain ⟨E3, rfl⟩ := q_v32 g3
    obtain ⟨E4, rfl⟩ := q_v32 g4
    obtain ⟨_, _, h1, h2, h3⟩ := p5 (0, 1, 0) (.head _)
    obtain ⟨_, _, h4, h5, h6⟩ := p5 (1, 2, 1) (.tail _ (.head _))
    obtain ⟨_, _, h7, h8, h9⟩ := p5 (2, 4, -1000) (.tail _ (.tail _ (.head _)))
    have h1 : qval ws (0, 3, 1, 1000) = some _ := h1
    have h2 : qval ws (0, 4, 1, 1000) = some _ := h2
    have h4 : qval ws (0, 4, 1, 1000) = some _ := h4
    have h5 : qval ws (0, 5, 0, 999) = some _ := h5
    have h7 : qval ws (0, 5, 0, 999) = some _ := h7
    have h8 : qval ws (0, 20, 1000, 2000) = some _ := h8
    rw [g0] at h1; cases h1
    rw [g1] at h2; cases h2
    rw [g1] at h4; cases h4
    rw [g2] at h5; cases h5
    rw [g2] at h7; cases h7
    rw [g4] at h8; cases h8
    have n4 : 1000 ≤ E4.toInt ∧ E4.toInt ≤ 2000 := n4
    have n2 : 0 ≤ E2.toInt ∧ E2.toInt ≤ 999 := n2
    have h9 : E4.toInt + (-1000) ≤ E2.toInt := h9
    obtain ⟨f, hf⟩ := Int.eq_ofNat_of_zero_le (show 0 ≤ E4.toInt by omega)
    have hE : ∀ σ : qσ, σ 0 = some E0.toInt → σ 1 = some E1.toInt → σ 2 = some E2.toInt → σ 3 = some E3.toInt → σ 4 = some E4.toInt → qEn σ ws [.ref a0, .int J1] [(3, 0, 0), (1, 0, 1)] [(0, 0, 0), (0, 1, 0), (0, 2, 0), (0, 3, 0), (0, 4, 0)] mn_32 := by
      intro σ k0 k1 k2 k3 k4
      refine ⟨fun i a ha h1 => ?_, ⟨E0, g0, by simp [qvl, k0]⟩, ⟨E1, g1, by simp [qvl, k1]⟩, ⟨E2, g2, by simp [qvl, k2]⟩, ⟨E3, g3, by simp [qvl, k3]⟩, ⟨E4, g4, by simp [qvl, k4]⟩, trivial⟩
      match i, ha with
      | 0, ha => cases ha; omega
      | 1, ha => cases ha; exact ⟨J1, rfl, by simp [qvl]; omega⟩
    refine k_ofW (by decide) (by show 2 ≤ _; decide) ?_
    intro p e s m below meth cd A ls hC hr hlocks hname hw hl
    have hret : ∀ σ : qσ, qRt (γ, p, l, e, { frames := mn_32.1.2.1, cells := 0, slots := 0, locals := mn_32.1.2.2 }, s, m, [Value.ref a0, .int J1].toArray, below, meth, cd, MQ below (kQ γ A (qPost mD γ mY mn_32 adr ws [.ref a0, .int J1])) [Value.ref a0, .int J1].toArray s 0 0 A, (cX12_readsLaw, 2, RX12), A, mD, adr, mY, mn_32.2.2.2.2.2, ws, σ) 2 (qPost mD γ mY mn_32 adr ws [.ref a0, .int J1]) := fun σ => q_rt hC hlocks hr (.inr (.inr (.inl ⟨rfl, rfl⟩))) σ
    refine q_seg (σ := qsl [E0.toInt, E1.toInt, E2.toInt, E3.toInt, E4.toInt]) (ρ := qr0 mD adr) (av := [.ref a0, .int J1]) (lv := lv_args 0 [Value.ref a0, .int J1]) hC (q_Dok mDok) rfl (m_yok adr) mtk_RX12 hcon ⟨Nat.le_refl _, Nat.le_refl _⟩ pk_X12_readsLaw (hE _ rfl rfl rfl rfl rfl) (hret _) l_c1_1 ?_ hw hl ?_ ?_ ?_ p2 q_K0
    · intro k hk σ2 ρ2 lv2 st2 ls2 ws2 H2 locs2 hw2 hl2 hN2 hF2 hM2 hY2 hK2 hσ2
      have c2 := List.all_eq_true.mp l_c2_1 k hk
      have c3 := List.all_eq_true.mp l_c3_1 k hk
      simp only [Bool.and_eq_true, beq_iff_eq] at c2
      obtain ⟨⟨e40, c20⟩, c2⟩ := c2
      rw [e40]
      have hM2' : k.2.1.2.2 = (k.2.1.2.2.1, k.2.1.2.2.2.1, k.2.1.2.2.2.2) := rfl
      have hH2 : qH mD γ adr (fun _ _ => False) ws2 := q_H0c (by
        have : ∀ k ∈ lA1, k.2.1.2.2.2.2 = [] := by decide +kernel
        exact this k hk) hM2
      have s2_0 := hσ2 0 _ (by decide) rfl
      have s2_1 := hσ2 1 _ (by decide) rfl
      have s2_2 := hσ2 2 _ (by decide) rfl
      have s2_3 := hσ2 3 _ (by decide) rfl
      have s2_4 := hσ2 4 _ (by decide) rfl
      have s2_4 : σ2 4 = some E4.toInt := s2_4
      have hlen : ∀ v z, σ2 v = some z → v < k.2.1.1.1.length := fun v z hz => by
        rcases Nat.lt_or_ge v k.2.1.1.1.length with h | h
        · exact h
        · rw [hN2.1 v h] at hz; cases hz
      have hcode2 : mGet ws2 0 20 = E4.toInt := m_gv (r_gv hM2 hw2.2.1.1 (by decide) (by decide) (by simpa using c20) s2_4)
      refine q_seg (c := qNo [(9, 3, 3)]) (w0 := ws2) (av := []) (X := fun _ => True) (σ := σ2) (ρ := ρ2) hC (q_Dok mDok) rfl (fun _ _ _ _ _ _ _ _ _ _ => trivial) mtk_RX12 q_f0 ⟨Nat.zero_le _, Nat.zero_le _⟩ pk_X12_readsLaw q_noE q_noR c2 ?_ hw2 hl2 hN2 hF2 hM2 trivial q_K0
      intro k' hk'
      rw [List.mem_singleton] at hk'
      subst hk'
      intro σ3 ρ3 lv3 st3 ls3 ws3 H3 locs3 hw3 hl3 hN3 hF3 hM3 hx3 hK3 hσ3
      have hH3 := q_H00 (m := (9, 3, (0, 4, 0)) :: k.2.1.2.2.2.1) hM3 (r := [])
      have s3 : ∀ v z, σ2 v = some z → σ3 v = some z := fun v z hz => hσ3 v z (hlen v z hz) hz
      have hfr : mGet ws3 9 3 = E4.toInt := m_gv (r_gv hM3 hw3.2.1.1 (by decide) (by decide) (.head _) (s3 4 _ s2_4))
      have hY3 : mY ws3 := m_yFrom (by decide) hH2 hH3 hK3 (by rw [hfr, hcode2]) hY2
      have hcode3 : mGet ws3 0 20 = (f : Int) := by
        rw [← hf]
        exact m_gv (r_gv hM3 hw3.2.1.1 (by decide) (by decide) (List.mem_cons_of_mem _ (by simpa using c20)) (s3 4 _ s2_4))
      have hi42 : qat pg_X12_readsLaw 42 = some (.invokevirtual 302, 3) := rfl
      refine q_segC (σ := σ3) (ρ := ρ3) (w0 := ws) (X := fun w => (mGet w 0 20 = (f : Int) ∧ ∀ i, i < f → mGet w 11 i = mGet ws3 11 i) ∧ lZ ws3 w) (X' := fun r w => r.isSome = true ∧ ((∃ st, rX f (mGet ws3 11) st w ∧ (r = some (.int 1) → st = [])) ∧ lZ ws3 w)) hC (q_Dok mDok) mtk_RX12 (q_f1 (q_rsm rfl (q_fr2 l_Zd rfl (m_reads γ l f _))) (q_f1 (q_rsm rfl (q_fr2 l_Zd rfl (m_readsz γ l f _))) q_f0)) ⟨Nat.le_refl _, Nat.le_refl _⟩ pk_X12_readsLaw hi42 c3 ?_ hw3 hl3 hN3 hF3 hM3 ⟨⟨hcode3, fun _ _ => rfl⟩, fun _ _ _ => rfl⟩ (q_Kt hH2 (by decide) hK2 hK3)
      intro k'' hk'' σ4 ρ4 lv4 r st4 ls4 ws4 H4 locs4 hw4 hl4 hN4 hF4 hM4 hX4 hK4 hσ4
      obtain ⟨hrs, ⟨st, hrx, hr1⟩, hz⟩ := hX4
      have hY4 : mY ws4 := m_yCall hcode3 hY3 hrx hz
      have c4 := List.all_eq_true.mp l_c4_1 k'' hk''
      simp only [Bool.and_eq_true, beq_iff_eq] at c4
      obtain ⟨e45, c4⟩ := c4
      rw [e45]
      have s4_0 := hσ4 0 _ (by decide) (s3 0 _ s2_0)
      have s4_1 := hσ4 1 _ (by decide) (s3 1 _ s2_1)
      have s4_2 := hσ4 2 _ (by decide) (s3 2 _ s2_2)
      have s4_3 := hσ4 3 _ (by decide) (s3 3 _ s2_3)
      have s4_4 := hσ4 4 _ (by decide) (s3 4 _ s2_4)
      split at c4
      · exact q_seg (σ := σ4) (ρ := ρ4) (av := [.ref a0, .int J1]) hC (q_Dok mDok) rfl (m_yok adr) mtk_RX12 hcon ⟨Nat.le_refl _, Nat.le_refl _⟩ pk_X12_readsLaw (hE _ s4_0 s4_1 s4_2 s4_3 s4_4) (hret _) c4 (fun k hk => by cases hk) hw4 hl4 hN4 hF4 hM4 hY4 hK4
      · simp only [Bool.and_eq_true, decide_eq_true_eq] at c4
        obtain ⟨⟨⟨⟨⟨d1, d2⟩, d3⟩, d4⟩, d5⟩, d6⟩ := c4
        have hst4 : st4 = [] ∧ r = some (.int 1) := by
          cases r with
          | none => cases hrs
          | some v =>
            have hq := hF4.2
            rw [d1] at hq
            match st4, hq with
            | [], ⟨hv, _⟩ =>
              obtain ⟨y, rfl, hy⟩ := q_r1 hv
              exact ⟨rfl, by rw [show y = 1 from Int32.toInt_inj.mp hy]⟩
        obtain ⟨rfl, rfl⟩ := hst4
        have hst0 := hr1 rfl
        subst hst0
        have hlen4 : ∀ v z, σ4 v = some z → v < k''.2.1.1.1.length := fun v z hz => by
          rcases Nat.lt_or_ge v k''.2.1.1.1.length with h | h
          · exact h
          · rw [hN4.1 v h] at hz; cases hz
        have hret2 : ∀ σ : qσ, qRt (γ, p, l, e, { frames := mn_32.1.2.1, cells := 0, slots := 0, locals := mn_32.1.2.2 }, s, m, [Value.ref a0, .int J1].toArray, below, meth, cd, MQ below (kQ γ A (qPost mD γ mY mn_32 adr ws [.ref a0, .int J1])) [Value.ref a0, .int J1].toArray s 0 0 A, (cX12_readsLaw, 2, RX12), A, mD, adr, (fun w => (mY w ∧ rX f (mGet ws3 11) [] w) ∧ lZ ws3 w), mn_32.2.2.2.2.2, ws, σ) 2 (qPost mD γ (fun w => (mY w ∧ rX f (mGet ws3 11) [] w) ∧ lZ ws3 w) mn_32 adr ws [.ref a0, .int J1]) := by
          intro σ
          exact q_rtX (hret σ) (fun r w c => ⟨c.1, c.2.1.1.1, c.2.2⟩)
        refine q_seg (σ := σ4) (ρ := ρ4) (av := [.ref a0, .int J1]) (X := fun w => (mY w ∧ rX f (mGet ws3 11) [] w) ∧ lZ ws3 w) hC (q_Dok mDok) rfl (fun ws q g a c hg hx he ha h => ⟨l_yx adr ws q g a c hg hx he ha h.1, fun g' hg' k => by
          have hd : qdep mD (0 :: mXr) (lZ ws3) := fun ws w1 he h hx => l_Zd ws w1 he (fun q g a a' c c' hg h1 h2 k hk => h q g a a' c c' hg (by
            rcases hk with hk | hk
            · simp only [List.mem_cons, List.mem_nil_iff, or_false] at hk
              rcases hk with rfl | rfl | rfl | rfl <;> decide
            · cases hk) h1 h2 k) hx
          exact q_depW hd adr ws q g a c hg hx he ha h.2 g' hg' k⟩) mtk_RX12 (B := [mn_11, mn_13]) (q_f1 (l_up3 rfl rfl rfl (ms_11 γ l)) (q_f1 (l_up3 rfl rfl rfl (ms_13 γ l)) q_f0)) ⟨Nat.le_refl _, Nat.le_refl _⟩ pk_X12_readsLaw (hE _ s4_0 s4_1 s4_2 s4_3 s4_4) (hret2 _) d4 ?_ hw4 hl4 hN4 hF4 hM4 ⟨⟨hY4, hrx⟩, hz⟩ hK4
        intro k5 hk5
        rw [List.mem_singleton] at hk5
        subst hk5
        intro σ5 ρ5 lv5 st5 ls5 ws5 H5 locs5 hw5 hl5 hN5 hF5 hM5 hx5 hK5 hσ5
        have hH5 : qH mD γ adr (fun _ _ => False) ws5 := q_H0c (by
          have : ∀ k ∈ lF1, k.2.1.2.2.2.2 = [] := by decide +kernel
          exact this k'' hk'') hM5
        have s5 : ∀ v z, σ4 v = some z → σ5 v = some z := fun v z hz => hσ5 v z (hlen4 v z hz) hz
        refine q_seg (c := qNo [(10, 3, 3)]) (w0 := ws5) (av := []) (X := fun _ => True) (σ := σ5) (ρ := ρ5) hC (q_Dok mDok) rfl (fun _ _ _ _ _ _ _ _ _ _ => trivial) mtk_RX12 q_f0 ⟨Nat.zero_le _, Nat.zero_le _⟩ pk_X12_readsLaw q_noE q_noR d5 ?_ hw5 hl5 hN5 hF5 hM5 trivial q_K0
        intro k6 hk6
        rw [List.mem_singleton] at hk6
        subst hk6
        intro σ6 ρ6 lv6 st6 ls6 ws6 H6 locs6 hw6 hl6 hN6 hF6 hM6 hx6 hK6 hσ6
        have hH6 := q_H00 (m := (10, 3, lV k''.2.1) :: k''.2.1.2.2.2.1) hM6 (r := [])
        have hlen5 : ∀ v z, σ5 v = some z → v < k''.2.1.1.1.length := fun v z hz => by
          rcases Nat.lt_or_ge v k''.2.1.1.1.length with h | h
          · exact h
          · rw [hN5.1 v h] at hz; cases hz
        have s6 : ∀ v z, σ5 v = some z → σ6 v = some z := fun v z hz => hσ6 v z (hlen5 v z hz) hz
        obtain ⟨z1, y1, y2⟩ := q_gvM hM6 hw6.2.1.1 (n := 10) (k := 3) (av := lV k''.2.1) (by decide) (by decide) d3 (.head _)
        obtain ⟨z2, y3, y4⟩ := q_gvM hM6 hw6.2.1.1 (n := 0) (k := 20) (av := lV k''.2.1) (by decide) (by decide) d3 (List.mem_cons_of_mem _ (by simpa using d2))
        rw [y2] at y4
        cases y4
        have hto : mGet ws6 10 3 = mGet ws5 0 20 := by
          have e1 : mGet ws6 0 20 = mGet ws5 0 20 := m_K1 hH5 hH6 hK6 (by decide +kernel) (by decide)
          rw [← e1, m_gv y1, m_gv y3]
        have hY6 : mY ws6 := m_yTo (by decide) hH5 hH6 hK6 hto (by rw [hx5.2 9 (by decide), hfr, hf]) hx5.1.2 hx5.1.1
        exact q_seg (σ := σ6) (ρ := ρ6) (av := [.ref a0, .int J1]) hC (q_Dok mDok) rfl (m_yok adr) mtk_RX12 hcon ⟨Nat.le_refl _, Nat.le_refl _⟩ pk_X12_readsLaw (hE _ (s6 _ _ (s5 _ _ s4_0)) (s6 _ _ (s5 _ _ s4_1)) (s6 _ _ (s5 _ _ s4_2)) (s6 _ _ (s5 _ _ s4_3)) (s6 _ _ (s5 _ _ s4_4))) (hret _) d6 (fun k hk => by cases hk) hw6 hl6 hN6 hF6 hM6 hY6 (q_Kt hH5 (by decide) hK5 hK6)
    · refine q_Nof ⟨n0, n1, n2, n3, ⟨n4.1, by show _ ≤ (1999 : Int); omega⟩, trivial⟩ (fun a b d hm => ?_)
      simp only [List.mem_cons, List.mem_nil_iff, or_false, Prod.mk.injEq] at hm
      rcases hm with ⟨rfl, rfl, rfl⟩ | ⟨rfl, rfl, rfl⟩ | ⟨rfl, rfl, rfl⟩
      · exact ⟨_, _, rfl, rfl, h9⟩
      · exact ⟨_, _, rfl, rfl, h6⟩
      · exact ⟨_, _, rfl, rfl, h3⟩
    · refine ⟨⟨⟨rfl, .inr (.inr (.inr ⟨rfl, a0, rfl, ?_⟩))⟩, ⟨rfl, .inr (.inl ⟨rfl, J1, rfl, by show J1.toInt = (1 : Int); omega⟩)⟩, trivial⟩, trivial⟩
      show qr0 mD adr 0 = some a0
      unfold qr0
      rw [if_pos (by decide)]
      exact ha
    · refine q_Mof p1 (fun n k av hm => ?_)
      simp only [List.mem_cons, List.mem_nil_iff, or_false, Prod.mk.injEq] at hm
      rcases hm with ⟨rfl, rfl, rfl⟩ | ⟨rfl, rfl, rfl⟩ | ⟨rfl, rfl, rfl⟩ | ⟨rfl, rfl, rfl⟩ | ⟨rfl, rfl, rfl⟩
      · exact ⟨by decide, _, 20, g4, by simp [qvl, qsl], .inl ⟨by decide, rfl⟩⟩
      · exact ⟨by decide, _, 6, g3, by simp [qvl, qsl], .inl ⟨by decide, rfl⟩⟩
      · exact ⟨by decide, _, 5, g2, by simp [qvl, qsl], .inl ⟨by decide, rfl⟩⟩
      · exact ⟨by decide, _, 4, g1, by simp [qvl, qsl], .inl ⟨by decide, rfl⟩⟩
      · exact ⟨by decide, _, 3, g0, by simp [qvl, qsl], .inl ⟨by decide, rfl⟩⟩

/-! array instructions -/
abbrev qxγ (x : qCx) : kΓ := x.1
abbrev qxD (x : qCx) : qWd := x.2.2.2.2.2.2.2.2.2.2.2.2.2.2.1
abbrev qxms (x : qCx) : qMods := x.2.2.2.2.2.2.2.2.2.2.2.2.2.2.2.2.2.1
abbrev qxnL (x : qCx) : Nat := x.2.2.2.2.2.2.2.2.2.2.2.2.1.2.1
abbrev qxown (x : qCx) : String := x.2.2.2.2.2.2.2.2.2.2.2.2.1.2.2
theorem q_idx {D : qWd} {S : AS} {i a : AV} {n g : Nat} {r : qRT} {p : qIv} (h : qidx D S i a = some (n, g, r, p)) : a.1 = 3 ∧ qint i = true ∧ a.2.1 = n ∧ qrg D S.2.2 n = some g ∧ ¬ g = qWR ∧ D.2.1[g]? = some r ∧ qiv S.1 i = some p ∧ 0 ≤ p.1 ∧ p.2 < (r.2.1 : Int) := by
  unfold qidx at h
  split at h
  · rename_i h1
    simp only [Bool.and_eq_true, beq_iff_eq] at h1
    split at h
    · rename_i g' hg
      split at h
      · cases h
      · rename_i hne
        split at h
        · rename_i r' p' hr hp
          split at h
          · rename_i h2
            simp only [Bool.and_eq_true, qle, decide_eq_true_eq] at h2
            cases h
            exact ⟨h1.1, h1.2, rfl, hg, by simpa using hne, hr, hp, h2.1.1, h2.1.2⟩
          · cases h
        · cases h
    · cases h
  · cases h
def qs_ald (D : qWd) (t : Nat) (kd : Nat → Bool) (S : AS) (pc : Nat) : Option qSu :=
  match S.2.1.2 with
  | i :: a :: stk => (match qidx D S i a with
    | some (n, g, r, p) => if kd r.1 then (match qrdA D t S.1 S.2.2 i n g r p with
      | some z => some [((z.1, (S.2.1.1, z.2.2 :: stk), z.2.1), pc + 1)]
      | none => none) else none
    | none => none)
  | _ => none
theorem qs_aldG {x : qCx} {D : qWd} (eD : qxD x = D) (hD : qD D) {t : Nat} {kd : Nat → Bool} {S : AS} {pc : Nat} {L : qSu} (hs : qs_ald D t kd S pc = some L)
    (hd : ∀ (H : Heap) (locs : List Loc) (ls : Array Slot) (st : List Value) (ws : va_W) (q a : Nat) (c : va_E) (r : qRT) (y : Int32) (v : Value), qkW x ws H locs → ws[q]? = some (a, c) → qsh (qxγ x) r c → kd r.1 = true → 0 ≤ y.toInt → y.toInt < (r.2.1 : Int) → qrd c y.toNatClampNeg = some v → qWp x H locs (pc + 1) ls (v :: st) → qWp x H locs pc ls (.int y :: .ref a :: st)) (h : qOk x L) : qG x S pc := by
  obtain ⟨γ, p, l, e, R, s, m, args, below, meth, c, Q, ⟨cc, nL', own⟩, A, D', adr, X, ms', w0, σe⟩ := x
  simp only [qxD] at eD
  subst eD
  obtain ⟨N, ⟨loc, stk⟩, M⟩ := S
  unfold qs_ald at hs
  split at hs
  · rename_i i a stk' heq
    simp only at heq
    subst heq
    split at hs
    · rename_i n g r pv hidx
      obtain ⟨i1, i2, i3, i4, i5, i6, i7, i8, i9⟩ := q_idx hidx
      split at hs
      · rename_i hkd
        split at hs
        · rename_i z hz
          cases hs
          have hG := qOk1 h
          intro σ ρ lv st ls ws H locs hw hl hS
          obtain ⟨h1, h2, h3, h4, h5, h6⟩ := hS
          match st, h2.2 with
          | vi :: va :: st, ⟨hri, hra, hst⟩ =>
          obtain ⟨y, rfl⟩ := q_int hri i2
          obtain ⟨b, rfl, hb⟩ := q_rfv hra i1
          rw [i3] at hb
          obtain ⟨q, cl, r', g1, g2, g3, g4, g5⟩ := q_cell hD h3 i4 i5 hb
          rw [i6] at g3
          cases g3
          obtain ⟨y', e, hy⟩ := q_iv h1 hri i7
          cases e
          obtain ⟨σ', ρ', v, s1, s2, s3, s4, s5, s6⟩ := q_rdA hD h1 h3 hw.2.1.1 i6 g2 hb g5 hri hy i8 i9 hz
          have hF := h2.mono s1 s2
          refine hd H locs ls st ws q b cl r y v hw g2 g4 hkd (Int.le_trans i8 hy.1) (Int.lt_of_le_of_lt hy.2 i9) s5 ?_
          exact hG σ' ρ' lv (v :: st) ls ws H locs hw hl ⟨s3, ⟨hF.1, s6, hF.2.2.2⟩, s4, h4, h5, fun v x hv => s1 v x (h6 v x hv)⟩
        · cases hs
      · cases hs
    · cases hs
  · cases hs
/-- may a value be put into an array of a kind -/
def qpa (N : qN) (kd : Nat) (a : AV) : Bool :=
  match kd with
  | 0 => qint a
  | 1 => a.1 == 2
  | 2 => (match qiv N a with
    | some p => qle (-128) p.1 && qle p.2 127
    | none => false)
  | 3 => (match qiv N a with
    | some p => qle 0 p.1 && qle p.2 1
    | none => false)
  | _ => false
def qs_ast (D : qWd) (ms : qMods) (xr : List Nat) (kd : Nat → Bool) (S : AS) (pc : Nat) : Option qSu :=
  match S.2.1.2 with
  | v :: i :: a :: stk => (match qidx D S i a with
    | some (n, g, r, p) => if kd r.1 && qpa S.1 r.1 v then (match qwrA D ms xr S.1 S.2.2 i n g r p v with
      | some M' => if r.1 == 1 && !(decide (p.1 = p.2)) && !(qac (qtk D S.1 S.2.2 v) r.2.2 p.1.toNat p.2.toNat) then none else some [((S.1, (S.2.1.1, stk), M'), pc + 1)]
      | none => none) else none
    | none => none)
  | _ => none
theorem qs_astG {x : qCx} {D : qWd} (eD : qxD x = D) (hD : qD D) {ms : qMods} (ems : qxms x = ms) {xr : List Nat} (hX : qxok x xr) {kd : Nat → Bool} {S : AS} {pc : Nat} {L : qSu} (hs : qs_ast D ms xr kd S pc = some L)
    (hd : ∀ (H : Heap) (locs : List Loc) (ls : Array Slot) (st : List Value) (ws : va_W) (q a : Nat) (c : va_E) (r : qRT) (y : Int32) (v : Value), qkW x ws H locs → ws[q]? = some (a, c) → qsh (qxγ x) r c → kd r.1 = true → 0 ≤ y.toInt → y.toInt < (r.2.1 : Int) →
      ((r.1 = 0 ∧ ∃ z : Int32, v = .int z) ∨ (r.1 = 1 ∧ ∃ z : Int64, v = .long z) ∨ (r.1 = 2 ∧ ∃ z : Int32, v = .int z ∧ qIn (-128, 127) z.toInt) ∨ (r.1 = 3 ∧ ∃ z : Int32, v = .int z ∧ qIn (0, 1) z.toInt)) →
      ∃ c' : va_E, qsame (qxγ x) r c c' y.toNatClampNeg y.toNatClampNeg ∧ qrd c' y.toNatClampNeg = some v ∧ ((∀ (H1 : Heap) (locs1 : List Loc), qkW x (ws.set q (a, c')) H1 locs1 → qWp x H1 locs1 (pc + 1) ls st) → qWp x H locs pc ls (v :: .int y :: .ref a :: st))) (h : qOk x L) : qG x S pc := by
  obtain ⟨γ, p, l, e, R, s, m, args, below, meth, c, Q, ⟨cc, nL', own⟩, A, D', adr, X, ms', w0, σe⟩ := x
  simp only [qxD] at eD
  simp only [qxms] at ems
  subst eD
  subst ems
  obtain ⟨N, ⟨loc, stk⟩, M⟩ := S
  unfold qs_ast at hs
  split at hs
  · rename_i v i a stk' heq
    simp only at heq
    subst heq
    split at hs
    · rename_i n g r pv hidx
      obtain ⟨i1, i2, i3, i4, i5, i6, i7, i8, i9⟩ := q_idx hidx
      split at hs
      · rename_i hkd
        simp only [Bool.and_eq_true] at hkd
        split at hs
        · rename_i M' hz
          split at hs
          · cases hs
          · rename_i hlong
            cases hs
            have hG := qOk1 h
            intro σ ρ lv st ls ws H locs hw hl hS
            obtain ⟨h1, h2, h3, h4, h5, h6⟩ := hS
            match st, h2.2 with
            | vv :: vi :: va :: st, ⟨hrv, hri, hra, hst⟩ =>
            obtain ⟨y, rfl⟩ := q_int hri i2
            obtain ⟨b, rfl, hb⟩ := q_rfv hra i1
            rw [i3] at hb
            obtain ⟨q, cl, r', g1, g2, g3, g4, g5⟩ := q_cell hD h3 i4 i5 hb
            rw [i6] at g3
            cases g3
            obtain ⟨y', e, hy⟩ := q_iv h1 hri i7
            cases e
            have hvk : (r.1 = 0 ∧ ∃ z : Int32, vv = .int z) ∨ (r.1 = 1 ∧ ∃ z : Int64, vv = .long z) ∨ (r.1 = 2 ∧ ∃ z : Int32, vv = .int z ∧ qIn (-128, 127) z.toInt) ∨ (r.1 = 3 ∧ ∃ z : Int32, vv = .int z ∧ qIn (0, 1) z.toInt) := by
              have h9 := hkd.2
              unfold qpa at h9
              split at h9
              · rename_i e; exact .inl ⟨e, q_int hrv h9⟩
              · rename_i e; exact .inr (.inl ⟨e, q_lng hrv (by simpa using h9)⟩)
              · rename_i e
                split at h9
                · rename_i pp hpp
                  simp only [qle, Bool.and_eq_true, decide_eq_true_eq] at h9
                  obtain ⟨z, e1, hz1⟩ := q_iv h1 hrv hpp
                  exact .inr (.inr (.inl ⟨e, z, e1, Int.le_trans h9.1 hz1.1, Int.le_trans hz1.2 h9.2⟩))
                · cases h9
              · rename_i e
                split at h9
                · rename_i pp hpp
                  simp only [qle, Bool.and_eq_true, decide_eq_true_eq] at h9
                  obtain ⟨z, e1, hz1⟩ := q_iv h1 hrv hpp
                  exact .inr (.inr (.inr ⟨e, z, e1, Int.le_trans h9.1 hz1.1, Int.le_trans hz1.2 h9.2⟩))
                · cases h9
              · cases h9
            obtain ⟨c', d1, d2, d3⟩ := hd H locs ls st ws q b cl r y vv hw g2 g4 hkd.1 (Int.le_trans i8 hy.1) (Int.lt_of_le_of_lt hy.2 i9) hvk
            refine d3 (fun H1 locs1 hw1 => ?_)
            have hint : (∃ z, vv = .int z) ∨ qac (qtk D' N M v) r.2.2 pv.1.toNat pv.2.toNat = true ∨ pv.1 = pv.2 := by
              rcases hvk with ⟨_, z, e⟩ | ⟨e1, _⟩ | ⟨_, z, e, _⟩ | ⟨_, z, e, _⟩
              · exact .inl ⟨z, e⟩
              · rw [e1] at hlong
                simp only [beq_self_eq_true, Bool.true_and, Bool.and_eq_true, Bool.not_eq_true', decide_eq_false_iff_not, not_and, Bool.not_eq_false] at hlong
                by_cases e2 : pv.1 = pv.2
                · exact .inr (.inr e2)
                · exact .inr (.inl (hlong e2))
              · exact .inl ⟨z, e⟩
              · exact .inl ⟨z, e⟩
            obtain ⟨w1, w2, w3⟩ := q_wrA hD h1 h3 hw.2.1.1 hX h4 h5 hri hy i8 g1 i6 g2 hb hrv d1 d2 hint hz
            exact hG σ ρ lv st ls _ H1 locs1 hw1 hl ⟨h1, ⟨h2.1, hst⟩, w1, w2, w3, h6⟩
        · cases hs
      · cases hs
    · cases hs
  · cases hs
theorem q_sameI {γ : kΓ} {r : qRT} {f : Nat → Int32} {cA : ClassId} {n k : Nat} {z : Int32} (h : qsh γ r (.inl (cA, n, .inl f))) : qsame γ r (.inl (cA, n, .inl f)) (.inl (cA, n, .inl (upd f k z))) k k := by
  refine ⟨h, fun j hj => ?_⟩
  have hne : j ≠ k := by omega
  simp only [qrd, pk_un hne]
theorem q_sameL {γ : kΓ} {r : qRT} {f : Nat → Int64} {cA : ClassId} {n k : Nat} {z : Int64} (h : qsh γ r (.inl (cA, n, .inr (.inl f)))) : qsame γ r (.inl (cA, n, .inr (.inl f))) (.inl (cA, n, .inr (.inl (vp_updL f k z)))) k k := by
  refine ⟨h, fun j hj => ?_⟩
  have hne : j ≠ k := by omega
  simp only [qrd, pk_uLn hne]
theorem q_i2bid {z : Int32} (h : qIn (-128, 127) z.toInt) : z.toInt8.toInt32 = z := by
  apply Int32.toInt_inj.mp
  simp only [qIn] at h
  have e : z.toInt8.toInt32.toInt = z.toInt8.toInt := by simp
  rw [e, Int32.toInt_toInt8]
  exact Int.bmod_eq_of_le (by omega) (by omega)
theorem q_zid {z : Int32} (h : qIn (0, 1) z.toInt) : vp_nar .boolean z = z := by
  simp only [qIn] at h
  have : z = 0 ∨ z = 1 := by
    have h8 : z.toInt = 0 ∨ z.toInt = 1 := by omega
    rcases h8 with h8 | h8
    · exact .inl (Int32.toInt_inj.mp (by simpa using h8))
    · exact .inr (Int32.toInt_inj.mp (by simpa using h8))
  rcases this with rfl | rfl <;> rfl
theorem qs_iald {x : qCx} (hB : qB x) {D : qWd} (eD : qxD x = D) (hD : qD D) {S : AS} {pc : Nat} {L : qSu} (hs : qs_ald D 0 (fun k => k == 0) S pc = some L) (hdc : qdc x pc (.iaload, 1)) (h : qOk x L) : qG x S pc := by
  refine qs_aldG eD hD hs ?_ h
  obtain ⟨γ, p, l, e, R, s, m, args, below, meth, c, Q, ⟨cc, nL', own⟩, A, D', adr, X, ms', w0, σe⟩ := x
  intro H locs ls st ws q a c' r y v hw hc hsh hk h0 h1 hv hk9
  simp only [beq_iff_eq] at hk
  obtain ⟨f, rfl, -⟩ := q_arrI hsh (.inl hk)
  have hy := q_clamp h0
  simp only [qrd, if_pos (show y.toNatClampNeg < r.2.1 by omega), Option.some.injEq] at hv
  subst hv
  rw [hk] at hc
  exact k_iald hB hw q hc (vp_in_iff.mpr ⟨h0, h1⟩) hdc hk9
theorem qs_bald {x : qCx} (hB : qB x) {D : qWd} (eD : qxD x = D) (hD : qD D) {S : AS} {pc : Nat} {L : qSu} (hs : qs_ald D 0 (fun k => k == 2 || k == 3) S pc = some L) (hdc : qdc x pc (.baload, 1)) (h : qOk x L) : qG x S pc := by
  refine qs_aldG eD hD hs ?_ h
  obtain ⟨γ, p, l, e, R, s, m, args, below, meth, c, Q, ⟨cc, nL', own⟩, A, D', adr, X, ms', w0, σe⟩ := x
  intro H locs ls st ws q a c' r y v hw hc hsh hk h0 h1 hv hk9
  simp only [Bool.or_eq_true, beq_iff_eq] at hk
  obtain ⟨f, rfl, -⟩ := q_arrI hsh (.inr hk)
  have hy := q_clamp h0
  simp only [qrd, if_pos (show y.toNatClampNeg < r.2.1 by omega), Option.some.injEq] at hv
  subst hv
  rcases hk with hk | hk
  · rw [hk] at hc
    exact k_bald hB hw q hc (vp_in_iff.mpr ⟨h0, h1⟩) hdc hk9
  · rw [hk] at hc
    exact k_zald hB hw q hc (vp_in_iff.mpr ⟨h0, h1⟩) hdc hk9
theorem qs_lald {x : qCx} (hB : qB x) {D : qWd} (eD : qxD x = D) (hD : qD D) {S : AS} {pc : Nat} {L : qSu} (hs : qs_ald D 1 (fun k => k == 1) S pc = some L) (hdc : qdc x pc (.laload, 1)) (h : qOk x L) : qG x S pc := by
  refine qs_aldG eD hD hs ?_ h
  obtain ⟨γ, p, l, e, R, s, m, args, below, meth, c, Q, ⟨cc, nL', own⟩, A, D', adr, X, ms', w0, σe⟩ := x
  intro H locs ls st ws q a c' r y v hw hc hsh hk h0 h1 hv hk9
  simp only [beq_iff_eq] at hk
  obtain ⟨f, rfl, -⟩ := q_arrL hsh hk
  have hy := q_clamp h0
  simp only [qrd, if_pos (show y.toNatClampNeg < r.2.1 by omega), Option.some.injEq] at hv
  subst hv
  rw [hk] at hc
  exact k_lald hB hw q hc (vp_in_iff.mpr ⟨h0, h1⟩) hdc hk9
theorem qs_aald {x : qCx} (hB : qB x) {D : qWd} (eD : qxD x = D) (hD : qD D) {S : AS} {pc : Nat} {L : qSu} (hs : qs_ald D 2 (fun k => k == 4 || k == 5) S pc = some L) (hdc : qdc x pc (.aaload, 1)) (h : qOk x L) : qG x S pc := by
  refine qs_aldG eD hD hs ?_ h
  obtain ⟨γ, p, l, e, R, s, m, args, below, meth, c, Q, ⟨cc, nL', own⟩, A, D', adr, X, ms', w0, σe⟩ := x
  intro H locs ls st ws q a c' r y v hw hc hsh hk h0 h1 hv hk9
  simp only [Bool.or_eq_true, beq_iff_eq] at hk
  obtain ⟨f, rfl, -⟩ := q_arrR hsh hk
  have hy := q_clamp h0
  simp only [qrd, if_pos (show y.toNatClampNeg < r.2.1 by omega), Option.some.injEq] at hv
  subst hv
  rcases hk with hk | hk
  · rw [hk] at hc
    exact k_aldq hB hw q 4 hc rfl (vp_in_iff.mpr ⟨h0, h1⟩) rfl hdc hk9
  · rw [hk] at hc
    exact k_aldq hB hw q 5 hc rfl (vp_in_iff.mpr ⟨h0, h1⟩) rfl hdc hk9
theorem qs_iast {x : qCx} (hB : qB x) {D : qWd} (eD : qxD x = D) (hD : qD D) {ms : qMods} (ems : qxms x = ms) {xr : List Nat} (hX : qxok x xr) {S : AS} {pc : Nat} {L : qSu} (hs : qs_ast D ms xr (fun k => k == 0) S pc = some L) (hdc : qdc x pc (.iastore, 1)) (h : qOk x L) : qG x S pc := by
  refine qs_astG eD hD ems hX hs ?_ h
  obtain ⟨γ, p, l, e, R, s, m, args, below, meth, c, Q, ⟨cc, nL', own⟩, A, D', adr, X, ms', w0, σe⟩ := x
  intro H locs ls st ws q a c' r y v hw hc hsh hk h0 h1 hv
  simp only [beq_iff_eq] at hk
  obtain ⟨f, rfl, -⟩ := q_arrI hsh (.inl hk)
  have hy := q_clamp h0
  have hlt : y.toNatClampNeg < r.2.1 := by omega
  have hz : ∃ z : Int32, v = .int z := by
    rcases hv with ⟨_, h⟩ | ⟨h, _⟩ | ⟨_, z, h, _⟩ | ⟨_, z, h, _⟩
    · exact h
    · omega
    · exact ⟨z, h⟩
    · exact ⟨z, h⟩
  obtain ⟨z, rfl⟩ := hz
  refine ⟨_, q_sameI (z := z) hsh, by simp only [qrd, if_pos hlt, pk_us], fun hk9 => ?_⟩
  rw [hk] at hc hk9
  exact k_iast hB hw q hc (vp_in_iff.mpr ⟨h0, h1⟩) hdc hk9
theorem qs_bast {x : qCx} (hB : qB x) {D : qWd} (eD : qxD x = D) (hD : qD D) {ms : qMods} (ems : qxms x = ms) {xr : List Nat} (hX : qxok x xr) {S : AS} {pc : Nat} {L : qSu} (hs : qs_ast D ms xr (fun k => k == 2 || k == 3) S pc = some L) (hdc : qdc x pc (.bastore, 1)) (h : qOk x L) : qG x S pc := by
  refine qs_astG eD hD ems hX hs ?_ h
  obtain ⟨γ, p, l, e, R, s, m, args, below, meth, c, Q, ⟨cc, nL', own⟩, A, D', adr, X, ms', w0, σe⟩ := x
  intro H locs ls st ws q a c' r y v hw hc hsh hk h0 h1 hv
  simp only [Bool.or_eq_true, beq_iff_eq] at hk
  obtain ⟨f, rfl, -⟩ := q_arrI hsh (.inr hk)
  have hy := q_clamp h0
  have hlt : y.toNatClampNeg < r.2.1 := by omega
  rcases hv with ⟨h, _⟩ | ⟨h, _⟩ | ⟨h, z, rfl, hz⟩ | ⟨h, z, rfl, hz⟩
  · omega
  · omega
  · refine ⟨_, q_sameI (z := z) hsh, by simp only [qrd, if_pos hlt, pk_us], fun hk9 => ?_⟩
    rw [h] at hc hk9
    have hk8 := k_bast (p := p) (l := l) (e := e) (R := R) (below := below) (meth := meth) (Q := Q) (ls := ls) (rest := st) (cells := 0) (slots := 0) (x := z) hB hw q hc (vp_in_iff.mpr ⟨h0, h1⟩) hdc
    rw [vp_nar_byte, q_i2bid hz] at hk8
    exact hk8 hk9
  · refine ⟨_, q_sameI (z := z) hsh, by simp only [qrd, if_pos hlt, pk_us], fun hk9 => ?_⟩
    rw [h] at hc hk9
    have hk8 := k_zast (p := p) (l := l) (e := e) (R := R) (below := below) (meth := meth) (Q := Q) (ls := ls) (rest := st) (cells := 0) (slots := 0) (x := z) hB hw q hc (vp_in_iff.mpr ⟨h0, h1⟩) hdc
    rw [q_zid hz] at hk8
    exact hk8 hk9
theorem qs_last {x : qCx} (hB : qB x) {D : qWd} (eD : qxD x = D) (hD : qD D) {ms : qMods} (ems : qxms x = ms) {xr : List Nat} (hX : qxok x xr) {S : AS} {pc : Nat} {L : qSu} (hs : qs_ast D ms xr (fun k => k == 1) S pc = some L) (hdc : qdc x pc (.lastore, 1)) (h : qOk x L) : qG x S pc := by
  refine qs_astG eD hD ems hX hs ?_ h
  obtain ⟨γ, p, l, e, R, s, m, args, below, meth, c, Q, ⟨cc, nL', own⟩, A, D', adr, X, ms', w0, σe⟩ := x
  intro H locs ls st ws q a c' r y v hw hc hsh hk h0 h1 hv
  simp only [beq_iff_eq] at hk
  obtain ⟨f, rfl, -⟩ := q_arrL hsh hk
  have hy := q_clamp h0
  have hlt : y.toNatClampNeg < r.2.1 := by omega
  have hz : ∃ z : Int64, v = .long z := by
    rcases hv with ⟨h, _⟩ | ⟨_, h⟩ | ⟨h, _⟩ | ⟨h, _⟩
    · omega
    · exact h
    · omega
    · omega
  obtain ⟨z, rfl⟩ := hz
  refine ⟨_, q_sameL (z := z) hsh, by simp only [qrd, if_pos hlt, pk_uLs], fun hk9 => ?_⟩
  rw [hk] at hc hk9
  exact k_last hB hw q hc (vp_in_iff.mpr ⟨h0, h1⟩) hdc hk9

/-! the told abbey, as the class and the model have it -/
def rT (w : va_W) (q k p : Nat) : Prop := ∃ a, (w.map Prod.fst)[p]? = some a ∧ qsl2 w q k = some (.ref a)
abbrev tS : Type := Nat × Nat × (Nat → Int64) × (Nat → Int64) × (Nat → Int32)
def tSof (a : aAS) : tS := (a.2.2.2.2.2.2.2.1, a.2.2.2.2.2.2.2.2.1, a.1, a.2.2.2.2.1, a.2.2.2.1)
def cHalf (w : va_W) (pt t0 t3 t4 : Nat) : Prop := cD.1[pt]? = some 21 ∧ cD.1[t0]? = some 22 ∧ cD.1[t3]? = some 25 ∧ cD.1[t4]? = some 26 ∧ rT w pt 0 t0 ∧ rT w pt 3 t3 ∧ rT w pt 4 t4
def cCt (w : va_W) (pt t0 t3 t4 : Nat) (S : tS) : Prop := S.1 ≤ 8 ∧ S.2.1 ≤ 5 ∧ qsl2 w pt 8 = some (.int (nI S.1)) ∧ qsl2 w pt 9 = some (.int (nI S.2.1)) ∧ (∀ i, i < S.1 → qsl2 w t0 i = some (.long (S.2.2.1 i))) ∧ (∀ i, i < S.2.1 → qsl2 w t4 i = some (.long (S.2.2.2.1 i))) ∧ ∀ i, i < S.1 → qsl2 w t3 i = some (.int (S.2.2.2.2 i))
/-- the class: told at pt with its arrays, the draft at pd with its own -/
def cTo (w : va_W) (S : tS) : Prop := ∃ pt t0 t3 t4 pd d0 d3 d4 : Nat, cHalf w pt t0 t3 t4 ∧ cHalf w pd d0 d3 d4 ∧ (pt ≠ pd ∧ t0 ≠ d0 ∧ t3 ≠ d3 ∧ t4 ≠ d4) ∧ rT w 0 9 pt ∧ rT w 0 10 pd ∧ cCt w pt t0 t3 t4 S
/-- the model: the first half of its rows -/
def mTo (w : va_W) (S : tS) : Prop := S.1 ≤ 8 ∧ S.2.1 ≤ 5 ∧ qsl2 w 2 0 = some (.int (nI S.1)) ∧ qsl2 w 2 1 = some (.int (nI S.2.1)) ∧ (∀ i, i < S.1 → qsl2 w 3 i = some (.long (S.2.2.1 i))) ∧ (∀ i, i < S.2.1 → qsl2 w 4 i = some (.long (S.2.2.2.1 i))) ∧ ∀ i, i < S.1 → qsl2 w 7 i = some (.int (S.2.2.2.2 i))
/-- what the two have told is the same -/
def tR (S S' : tS) : Prop := S.1 = S'.1 ∧ S.2.1 = S'.2.1 ∧ (∀ i, i < S.1 → nR (S.2.2.1 i) (S'.2.2.1 i)) ∧ (∀ i, i < S.2.1 → nR (S.2.2.2.1 i) (S'.2.2.2.1 i)) ∧ ∀ i, i < S.1 → S.2.2.2.2 i = S'.2.2.2.2 i
def lT (wx wm : va_W) : Prop := ∃ S S' : tS, cTo wx S ∧ mTo wm S' ∧ tR S S'
theorem qm_none {ms : qMods} {g : Nat} (h : ms.all (fun m => !(m.1 == g)) = true) (k : Nat) : qmod ms g k = false := by
  unfold qmod
  rw [List.any_eq_false]
  intro m hm hc
  have h1 := List.all_eq_true.mp h m hm
  simp only [Bool.and_eq_true, beq_iff_eq] at hc
  rw [hc.1.1] at h1
  simp at h1
theorem rT_tr {w w' : va_W} {q k p : Nat} (hf : w'.map Prod.fst = w.map Prod.fst) (hs : qsl2 w' q k = qsl2 w q k) (h : rT w q k p) : rT w' q k p := by
  obtain ⟨a, h1, h2⟩ := h
  exact ⟨a, by rw [hf]; exact h1, hs.trans h2⟩
theorem cHalf_tr {w w' : va_W} {pt t0 t3 t4 : Nat} (hf : w'.map Prod.fst = w.map Prod.fst) (hs : ∀ k, k < 8 → qsl2 w' pt k = qsl2 w pt k) (h : cHalf w pt t0 t3 t4) : cHalf w' pt t0 t3 t4 := by
  obtain ⟨h1, h2, h3, h4, h5, h6, h7⟩ := h
  exact ⟨h1, h2, h3, h4, rT_tr hf (hs 0 (by decide)) h5, rT_tr hf (hs 3 (by decide)) h6, rT_tr hf (hs 4 (by decide)) h7⟩
theorem cCt_tr {w w' : va_W} {pt t0 t3 t4 : Nat} {S : tS} (hs : ∀ (q k : Nat) (v : Value), (q = pt ∨ q = t0 ∨ q = t3 ∨ q = t4) → qsl2 w q k = some v → qsl2 w' q k = some v) (h : cCt w pt t0 t3 t4 S) : cCt w' pt t0 t3 t4 S := by
  obtain ⟨h1, h2, h3, h4, h5, h6, h7⟩ := h
  exact ⟨h1, h2, hs _ _ _ (.inl rfl) h3, hs _ _ _ (.inl rfl) h4, fun i hi => hs _ _ _ (.inr (.inl rfl)) (h5 i hi), fun i hi => hs _ _ _ (.inr (.inr (.inr rfl))) (h6 i hi), fun i hi => hs _ _ _ (.inr (.inr (.inl rfl))) (h7 i hi)⟩
def cfree (ms : qMods) : Bool := ms.all (fun m => !(m.1 == 21)) && ms.all (fun m => !(m.1 == 22)) && ms.all (fun m => !(m.1 == 25)) && ms.all (fun m => !(m.1 == 26)) && !(qmod ms 0 9) && !(qmod ms 0 10)
theorem cfree_of {ms : qMods} (h : cfree ms = true) : (∀ k, qmod ms 21 k = false) ∧ (∀ k, qmod ms 22 k = false) ∧ (∀ k, qmod ms 25 k = false) ∧ (∀ k, qmod ms 26 k = false) ∧ qmod ms 0 9 = false ∧ qmod ms 0 10 = false := by
  unfold cfree at h
  rw [Bool.and_eq_true, Bool.and_eq_true, Bool.and_eq_true, Bool.and_eq_true, Bool.and_eq_true, Bool.not_eq_true', Bool.not_eq_true'] at h
  obtain ⟨⟨⟨⟨⟨h1, h2⟩, h3⟩, h4⟩, h5⟩, h6⟩ := h
  exact ⟨qm_none h1, qm_none h2, qm_none h3, qm_none h4, h5, h6⟩
theorem cTo_keep {γ : kΓ} {adr : List Nat} {ms : qMods} {ws w1 : va_W} {S : tS} (h0 : qH cD γ adr (fun _ _ => False) ws) (h1 : qH cD γ adr (fun _ _ => False) w1) (hK : qK cD ms ws w1) (hm : cfree ms = true) (h : cTo ws S) : cTo w1 S := by
  have hf : w1.map Prod.fst = ws.map Prod.fst := h1.1.trans h0.1.symm
  obtain ⟨m1, m2, m3, m4, m5, m6⟩ := cfree_of hm
  obtain ⟨pt, t0, t3, t4, pd, d0, d3, d4, hA, hB, hn, h9, h10, hC⟩ := h
  refine ⟨pt, t0, t3, t4, pd, d0, d3, d4, cHalf_tr hf (fun k _ => q_kp2 h0 h1 hK hA.1 (m1 k)) hA, cHalf_tr hf (fun k _ => q_kp2 h0 h1 hK hB.1 (m1 k)) hB, hn, rT_tr hf (q_kp2 h0 h1 hK (q := 0) (g := 0) rfl m5) h9, rT_tr hf (q_kp2 h0 h1 hK (q := 0) (g := 0) rfl m6) h10, cCt_tr (fun q k v hq hv => ?_) hC⟩
  rcases hq with e | e | e | e
  · subst e; exact (q_kp2 h0 h1 hK hA.1 (m1 k)).trans hv
  · subst e; exact (q_kp2 h0 h1 hK hA.2.1 (m2 k)).trans hv
  · subst e; exact (q_kp2 h0 h1 hK hA.2.2.1 (m3 k)).trans hv
  · subst e; exact (q_kp2 h0 h1 hK hA.2.2.2.1 (m4 k)).trans hv
def mfree (ms : qMods) : Bool := !(qmod ms 2 0) && !(qmod ms 2 1) && (List.range 8).all (fun k => !(qmod ms 3 k)) && (List.range 5).all (fun k => !(qmod ms 4 k)) && (List.range 8).all (fun k => !(qmod ms 7 k))
theorem mfree_of {ms : qMods} (h : mfree ms = true) : qmod ms 2 0 = false ∧ qmod ms 2 1 = false ∧ (∀ k, k < 8 → qmod ms 3 k = false) ∧ (∀ k, k < 5 → qmod ms 4 k = false) ∧ ∀ k, k < 8 → qmod ms 7 k = false := by
  unfold mfree at h
  rw [Bool.and_eq_true, Bool.and_eq_true, Bool.and_eq_true, Bool.and_eq_true, Bool.not_eq_true', Bool.not_eq_true'] at h
  obtain ⟨⟨⟨⟨h1, h2⟩, h3⟩, h4⟩, h5⟩ := h
  have key : ∀ {g n : Nat}, (List.range n).all (fun k => !(qmod ms g k)) = true → ∀ k, k < n → qmod ms g k = false := fun h9 k hk => by
    have h8 := List.all_eq_true.mp h9 k (List.mem_range.mpr hk)
    rw [Bool.not_eq_true'] at h8
    exact h8
  exact ⟨h1, h2, key h3, key h4, key h5⟩
theorem mTo_keep {γ : kΓ} {adr : List Nat} {ms : qMods} {ws w1 : va_W} {S : tS} (h0 : qH mD γ adr (fun _ _ => False) ws) (h1 : qH mD γ adr (fun _ _ => False) w1) (hK : qK mD ms ws w1) (hm : mfree ms = true) (h : mTo ws S) : mTo w1 S := by
  obtain ⟨m1, m2, m3, m4, m5⟩ := mfree_of hm
  obtain ⟨g1, g2, g3, g4, g5, g6, g7⟩ := h
  exact ⟨g1, g2, (q_kp2 h0 h1 hK (q := 2) (g := 2) rfl m1).trans g3, (q_kp2 h0 h1 hK (q := 2) (g := 2) rfl m2).trans g4, fun i hi => (q_kp2 h0 h1 hK (q := 3) (g := 3) rfl (m3 i (by omega))).trans (g5 i hi), fun i hi => (q_kp2 h0 h1 hK (q := 4) (g := 4) rfl (m4 i (by omega))).trans (g6 i hi), fun i hi => (q_kp2 h0 h1 hK (q := 7) (g := 7) rfl (m5 i (by omega))).trans (g7 i hi)⟩
theorem lT_keep {γ : kΓ} {ax am : List Nat} {ms ns : qMods} {wx wm wx' wm' : va_W} (x0 : qH cD γ ax (fun _ _ => False) wx) (x1 : qH cD γ ax (fun _ _ => False) wx') (xK : qK cD ms wx wx') (xm : cfree ms = true) (z0 : qH mD γ am (fun _ _ => False) wm) (z1 : qH mD γ am (fun _ _ => False) wm') (zK : qK mD ns wm wm') (zm : mfree ns = true) (h : lT wx wm) : lT wx' wm' := by
  obtain ⟨S, S', h1, h2, h3⟩ := h
  exact ⟨S, S', cTo_keep x0 x1 xK xm h1, mTo_keep z0 z1 zK zm h2, h3⟩
/-! what a typed cell holds, out of another picture of its heap -/
section QE
variable {D : qWd} {γ : kΓ} {adr : List Nat} {ws w1 : va_W} {H : Heap} {q g a : Nat} {sg : List (Nat × qTy)}
theorem q_eO {ci N : Nat} {r : vw_C} {fs2 : List Value} {k : Nat} {v : Value} (h1 : qH D γ adr (fun _ _ => False) w1) (hg : D.1[q]? = some g) (hr : D.2.1[g]? = some (10 + ci, N, sg)) (hc : vwCl[ci]? = some r) (hN : r.2.2 = N) (ha : adr[q]? = some a) (hP : va_P γ.1 vwCl w1 H) (h2 : va_at γ.1 vwCl (a, .inr (ci, fs2)) H) (hk : k < N) (hv : fs2[k]? = some v) : qsl2 w1 q k = some v := by
  obtain ⟨fs1, j1, j2, -⟩ := q_objAt h1 hg hr ha
  have hb := b_atO hc (hP q _ j1) h2 k (by rw [hN]; exact hk)
  unfold qsl2
  rw [j1]
  exact l_vs (d := Value.null) (by rw [j2]; exact hk) hb hv
theorem q_eI {tp N m : Nat} {cA : ClassId} {f2 : Nat → Int32} (h1 : qH D γ adr (fun _ _ => False) w1) (hg : D.1[q]? = some g) (hr : D.2.1[g]? = some (tp, N, sg)) (ht : tp = 0 ∨ tp = 2 ∨ tp = 3) (ha : adr[q]? = some a) (hP : va_P γ.1 vwCl w1 H) (h2 : va_at γ.1 vwCl (a, .inl (cA, m, .inl f2)) H) : ∀ k, k < N → qsl2 w1 q k = some (.int (f2 k)) := by
  obtain ⟨f1, j1, -⟩ := q_arrAt h1 hg hr ht ha
  have hb := (b_atI (hP q _ j1) h2).2
  intro k hk
  unfold qsl2
  rw [j1]
  show (if k < N then some (Value.int (f1 k)) else none) = _
  rw [if_pos hk, hb k hk]
theorem q_eL {N m : Nat} {cA : ClassId} {f2 : Nat → Int64} (h1 : qH D γ adr (fun _ _ => False) w1) (hg : D.1[q]? = some g) (hr : D.2.1[g]? = some (1, N, sg)) (ha : adr[q]? = some a) (hP : va_P γ.1 vwCl w1 H) (h2 : va_at γ.1 vwCl (a, .inl (cA, m, .inr (.inl f2))) H) : ∀ k, k < N → qsl2 w1 q k = some (.long (f2 k)) := by
  obtain ⟨f1, j1⟩ := q_arrLp h1 hg hr ha
  have hb := (b_atL (hP q _ j1) h2).2
  intro k hk
  unfold qsl2
  rw [j1]
  show (if k < N then some (Value.long (f1 k)) else none) = _
  rw [if_pos hk, hb k hk]
theorem q_hasA (h0 : qH D γ adr (fun _ _ => False) ws) (hg : D.1[q]? = some g) : ∃ a, adr[q]? = some a := by
  have hl := (List.getElem?_eq_some_iff.mp hg).1
  rw [← h0.2.1] at hl
  refine ⟨(ws[q]'hl).1, ?_⟩
  rw [← h0.1, List.getElem?_map, List.getElem?_eq_getElem hl]
  rfl
theorem q_sO {ci N : Nat} {r : vw_C} {k : Nat} {v : Value} (h0 : qH D γ adr (fun _ _ => False) ws) (h1 : qH D γ adr (fun _ _ => False) w1) (hg : D.1[q]? = some g) (hr : D.2.1[g]? = some (10 + ci, N, sg)) (hc : vwCl[ci]? = some r) (hN : r.2.2 = N) (hP : va_P γ.1 vwCl w1 H) (hA : ∀ c, ws[q]? = some c → va_at γ.1 vwCl c H) (hv : qsl2 ws q k = some v) : qsl2 w1 q k = some v := by
  obtain ⟨a, ha⟩ := q_hasA h0 hg
  obtain ⟨fs, e1, e2, -⟩ := q_objAt h0 hg hr ha
  have hv9 : fs[k]? = some v := by
    unfold qsl2 at hv
    rw [e1] at hv
    exact hv
  exact q_eO h1 hg hr hc hN ha hP (hA _ e1) (by rw [← e2]; exact (List.getElem?_eq_some_iff.mp hv9).1) hv9
theorem q_sI {tp N k : Nat} {v : Value} (h0 : qH D γ adr (fun _ _ => False) ws) (h1 : qH D γ adr (fun _ _ => False) w1) (hg : D.1[q]? = some g) (hr : D.2.1[g]? = some (tp, N, sg)) (ht : tp = 0 ∨ tp = 2 ∨ tp = 3) (hP : va_P γ.1 vwCl w1 H) (hA : ∀ c, ws[q]? = some c → va_at γ.1 vwCl c H) (hv : qsl2 ws q k = some v) : qsl2 w1 q k = some v := by
  obtain ⟨a, ha⟩ := q_hasA h0 hg
  obtain ⟨f, e1, -⟩ := q_arrAt h0 hg hr ht ha
  unfold qsl2 at hv
  rw [e1] at hv
  have hv : (if k < N then some (Value.int (f k)) else none) = some v := hv
  by_cases hk : k < N
  · rw [if_pos hk] at hv
    rw [q_eI h1 hg hr ht ha hP (hA _ e1) k hk]
    exact hv
  · rw [if_neg hk] at hv
    cases hv
theorem q_sL {N k : Nat} {v : Value} (h0 : qH D γ adr (fun _ _ => False) ws) (h1 : qH D γ adr (fun _ _ => False) w1) (hg : D.1[q]? = some g) (hr : D.2.1[g]? = some (1, N, sg)) (hP : va_P γ.1 vwCl w1 H) (hA : ∀ c, ws[q]? = some c → va_at γ.1 vwCl c H) (hv : qsl2 ws q k = some v) : qsl2 w1 q k = some v := by
  obtain ⟨a, ha⟩ := q_hasA h0 hg
  obtain ⟨f, e1⟩ := q_arrLp h0 hg hr ha
  unfold qsl2 at hv
  rw [e1] at hv
  have hv : (if k < N then some (Value.long (f k)) else none) = some v := hv
  by_cases hk : k < N
  · rw [if_pos hk] at hv
    rw [q_eL h1 hg hr ha hP (hA _ e1) k hk]
    exact hv
  · rw [if_neg hk] at hv
    cases hv
end QE
theorem g_ne {l : List Nat} {p e g g' : Nat} (h : p = e) (hp : l[p]? = some g) (he : l[e]? = some g') (hn : g ≠ g') : False := by
  subst h
  rw [hp] at he
  exact hn (Option.some.inj he)
/-! the abbey read: what both sides hold of it -/
theorem rb_ok {f f0 : Nat → Int32} {n : Nat} {a : aAS} {t5 : Int32} {t6 : Int64} (hfg : ∀ k, k < n → f0 k = f k) (hn : n ≤ 1000) (h : fvA f n = 0) : aOK (F_readAbbey f0 n a t5 t6).2.2 := by
  obtain ⟨res, h1, h2⟩ := abbey_sim (f := f0) (g := f) (a := a) (t5 := t5) (t6 := t6) (w0 := 0) (w1 := 0) (w2 := 0) (b := b00) hfg hn (b0x := fun _ => 0) rfl ⟨by decide, by decide⟩
  rcases h2 with ⟨x1, x2, x3, x4⟩ | ⟨x1, x2, x3⟩
  · exact x4
  · exact absurd ((fvA_c hfg hn).trans h) x1
theorem ab_AR {f f0 g : Nat → Int32} {n : Nat} {a : aAS} {t5 : Int32} {t6 : Int64} {w0 w1 : Int32} {w2 : Int64} {b : mAS} {b0x : Nat → Int32} {res : Int32 × mRS × mAS} (h0 : ∀ k, k < n → f0 k = f k) (h1 : ∀ k, k < n → f k = g k) (hn : n ≤ 1000) (hC : b.1 = F_m_usual1 b0x) (hl : (b.2.2.2.2.2.2.2.2.1) 2 ≤ (b.2.2.2.2.2.2.2.1) 2 ∧ (b.2.2.2.2.2.2.2.2.1) 3 ≤ (b.2.2.2.2.2.2.2.1) 3) (hr : F_m_rall g n 1001 (w0, 0, w1, w2, 0, 1000) b = some res) (h : fvA f n = 0) : AR (F_readAbbey f0 n a t5 t6).2.2 res.2.2 ∧ aOK (F_readAbbey f0 n a t5 t6).2.2 := by
  obtain ⟨res', e1, e2⟩ := abbey_sim (f := f0) (g := g) (a := a) (t5 := t5) (t6 := t6) (w0 := w0) (w1 := w1) (w2 := w2) (b := b) (fun k hk => (h0 k hk).trans (h1 k hk)) hn hC hl
  rw [hr] at e1
  have e := Option.some.inj e1
  subst e
  rcases e2 with ⟨x1, x2, x3, x4⟩ | ⟨x1, x2, x3⟩
  · exact ⟨x3, x4⟩
  · exact absurd ((fvA_c h0 hn).trans h) x1
/-- the model's reading of the tape, as a state -/
def mRd (f : Nat → Int32) (n : Nat) (b' : mAS) : Prop := ∃ (g : Nat → Int32) (w0 w1 : Int32) (w2 : Int64) (b : mAS) (b0x : Nat → Int32) (res : Int32 × mRS × mAS), (∀ k, k < n → f k = g k) ∧ b.1 = F_m_usual1 b0x ∧ ((b.2.2.2.2.2.2.2.2.1) 2 ≤ (b.2.2.2.2.2.2.2.1) 2 ∧ (b.2.2.2.2.2.2.2.2.1) 3 ≤ (b.2.2.2.2.2.2.2.1) 3) ∧ F_m_rall g n 1001 (w0, 0, w1, w2, 0, 1000) b = some res ∧ b' = res.2.2
def mNw (w : va_W) (b' : mAS) : Prop := (∀ k, k < 10 → qsl2 w 2 k = some (.int (b'.1 k))) ∧ (∀ k, k < 16 → qsl2 w 3 k = some (.long (b'.2.1 k))) ∧ (∀ k, k < 10 → qsl2 w 4 k = some (.long (b'.2.2.1 k))) ∧ ∀ k, k < 16 → qsl2 w 7 k = some (.int (b'.2.2.2.2.2.1 k))
def mTd (w : va_W) (b' : mAS) : Prop := qsl2 w 2 0 = some (.int (b'.1 5)) ∧ qsl2 w 2 1 = some (.int (b'.1 6)) ∧ (∀ k, k < 8 → qsl2 w 3 k = some (.long (b'.2.1 (8 + k)))) ∧ (∀ k, k < 5 → qsl2 w 4 k = some (.long (b'.2.2.1 (5 + k)))) ∧ ∀ k, k < 8 → qsl2 w 7 k = some (.int (b'.2.2.2.2.2.1 (8 + k)))
theorem mTd_keep {γ : kΓ} {adr : List Nat} {ms : qMods} {ws w1 : va_W} {b : mAS} (h0 : qH mD γ adr (fun _ _ => False) ws) (h1 : qH mD γ adr (fun _ _ => False) w1) (hK : qK mD ms ws w1) (hm : mfree ms = true) (h : mTd ws b) : mTd w1 b := by
  obtain ⟨m1, m2, m3, m4, m5⟩ := mfree_of hm
  obtain ⟨g3, g4, g5, g6, g7⟩ := h
  exact ⟨(q_kp2 h0 h1 hK (q := 2) (g := 2) rfl m1).trans g3, (q_kp2 h0 h1 hK (q := 2) (g := 2) rfl m2).trans g4, fun i hi => (q_kp2 h0 h1 hK (q := 3) (g := 3) rfl (m3 i hi)).trans (g5 i hi), fun i hi => (q_kp2 h0 h1 hK (q := 4) (g := 4) rfl (m4 i hi)).trans (g6 i hi), fun i hi => (q_kp2 h0 h1 hK (q := 7) (g := 7) rfl (m5 i hi)).trans (g7 i hi)⟩
/-- an abbey was read without a fault: what is told is the same -/
theorem lT_read {f f0 : Nat → Int32} {n : Nat} {a : aAS} {t5 : Int32} {t6 : Int64} {b' : mAS} {wx wm : va_W} (hn : n ≤ 1000) (h0 : ∀ k, k < n → f0 k = f k) (hr : mRd f n b') (h : fvA f n = 0) (hx : cTo wx (tSof (F_readAbbey f0 n a t5 t6).2.2)) (hm : mTd wm b') : lT wx wm := by
  obtain ⟨g, w0, w1, w2, b, b0x, res, g1, g2, g3, g4, rfl⟩ := hr
  obtain ⟨⟨r1, r2, r3, r4, r5⟩, o1, o2, o3⟩ := ab_AR (a := a) (t5 := t5) (t6 := t6) h0 g1 hn g2 g3 g4 h
  obtain ⟨m1, m2, m3, m4, m5⟩ := hm
  refine ⟨_, ((tSof (F_readAbbey f0 n a t5 t6).2.2).1, (tSof (F_readAbbey f0 n a t5 t6).2.2).2.1, fun i => res.2.2.2.1 (8 + i), fun i => res.2.2.2.2.1 (5 + i), fun i => res.2.2.2.2.2.2.2.1 (8 + i)), hx, ⟨o1, o2, ?_, ?_, fun i hi => m3 i (Nat.lt_of_lt_of_le hi o1), fun i hi => m4 i (Nat.lt_of_lt_of_le hi o2), fun i hi => m5 i (Nat.lt_of_lt_of_le hi o1)⟩, rfl, rfl, r3, r4, r5⟩
  · exact m1.trans (congrArg (fun v => some (Value.int v)) r1)
  · exact m2.trans (congrArg (fun v => some (Value.int v)) r2)
theorem nI_n0 {t : Nat} (h : t < 2 ^ 31) : ¬ nI t < 0 := by
  rw [Int32.lt_iff_toInt_lt, nI_toInt h, show (0 : Int32).toInt = 0 from by decide]
  omega

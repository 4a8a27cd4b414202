/-! arrays -/
theorem q_arrI {γ : kΓ} {r : qRT} {c : va_E} (h : qsh γ r c) (hr : r.1 = 0 ∨ r.1 = 2 ∨ r.1 = 3) : ∃ f : Nat → Int32, c = .inl (γ.2.1 r.1, r.2.1, .inl f) ∧ r.2.1 < 2147483648 := by
  cases c with
  | inr o => obtain ⟨h1, h2⟩ := h; omega
  | inl a =>
    obtain ⟨k, n, b⟩ := a
    obtain ⟨h1, h2, h3, h4⟩ := h
    simp only at h1 h2 h3 h4
    subst h1; subst h2
    split at h4
    · rename_i f
      exact ⟨f, rfl, h3⟩
    · omega
    · omega
    · exact h4.elim
theorem q_arrL {γ : kΓ} {r : qRT} {c : va_E} (h : qsh γ r c) (hr : r.1 = 1) : ∃ f : Nat → Int64, c = .inl (γ.2.1 r.1, r.2.1, .inr (.inl f)) ∧ r.2.1 < 2147483648 := by
  cases c with
  | inr o => obtain ⟨h1, h2⟩ := h; omega
  | inl a =>
    obtain ⟨k, n, b⟩ := a
    obtain ⟨h1, h2, h3, h4⟩ := h
    simp only at h1 h2 h3 h4
    subst h1; subst h2
    split at h4
    · omega
    · rename_i f
      exact ⟨f, rfl, h3⟩
    · omega
    · exact h4.elim
theorem q_arrR {γ : kΓ} {r : qRT} {c : va_E} (h : qsh γ r c) (hr : r.1 = 4 ∨ r.1 = 5) : ∃ f : Nat → Option Nat, c = .inl (γ.2.1 r.1, r.2.1, .inr (.inr (.inr (.inr f)))) ∧ r.2.1 < 2147483648 := by
  cases c with
  | inr o => obtain ⟨h1, h2⟩ := h; omega
  | inl a =>
    obtain ⟨k, n, b⟩ := a
    obtain ⟨h1, h2, h3, h4⟩ := h
    simp only at h1 h2 h3 h4
    subst h1; subst h2
    split at h4
    · omega
    · omega
    · rename_i f
      exact ⟨f, rfl, h3⟩
    · exact h4.elim
theorem q_clamp {i : Int32} (h : 0 ≤ i.toInt) : (i.toNatClampNeg : Int) = i.toInt := by
  obtain ⟨n, h1, h2, h3⟩ := q_nI h
  rw [h3, h2, nI_clamp h1]
/-- what an index names -/
def qidx (D : qWd) (S : AS) (i a : AV) : Option (Nat × Nat × qRT × qIv) :=
  if a.1 == 3 && qint i then (match qrg D S.2.2 a.2.1 with
    | some g => if g == qWR then none else (match D.2.1[g]?, qiv S.1 i with
      | some r, some p => if qle 0 p.1 && decide (p.2 < (r.2.1 : Int)) && qle p.1 p.2 then some (a.2.1, g, r, p) else none
      | _, _ => none)
    | none => none) else none
/-- a place with a variable's number -/
def qky (i : AV) : Nat := 10000 + 4096 * i.2.1 + (i.2.2 + 2048).toNat
def qkyb (i : AV) : Bool := i.1 == 0 && qle (-2048) i.2.2 && qle i.2.2 2047
theorem q_ky {σ : qσ} {i : AV} {k : Nat} (h : qkyb i = true) : qix σ (qky i) k ↔ ∃ y, σ i.2.1 = some y ∧ (k : Int) = y + i.2.2 := by
  unfold qkyb at h
  simp only [Bool.and_eq_true, beq_iff_eq, qle, decide_eq_true_eq] at h
  have e1 : (qky i - 10000) / 4096 = i.2.1 := by unfold qky; omega
  have e2 : (((qky i - 10000) % 4096 : Nat) : Int) = i.2.2 + 2048 := by unfold qky; omega
  have e3 : 10000 ≤ qky i := by unfold qky; omega
  unfold qix
  rw [e1, e2]
  constructor
  · rintro (⟨h1, -⟩ | ⟨-, y, h1, h2⟩)
    · omega
    · exact ⟨y, h1, by omega⟩
  · rintro ⟨y, h1, h2⟩
    exact .inr ⟨e3, y, h1, by omega⟩
/-- loads: t the kind of the value -/
def qrdA (D : qWd) (t : Nat) (N : qN) (M : qM) (i : AV) (n g : Nat) (r : qRT) (p : qIv) : Option (qN × qM × AV) :=
  if p.1 = p.2 then qrs D N M n p.1.toNat r
  else (match qjn t r.2.2 p.1.toNat p.2.toNat with
    | some j => if M.2.2.all (fun e => !(Nat.ble p.1.toNat e.2 && Nat.ble e.2 p.2.toNat)) then (match t with
      | 0 => (match M.2.1.find? (fun e => qkyb i && (e.1 == n && e.2.1 == qky i)) with
        | some e => some (N, M, e.2.2)
        | none => some (((qfr N j).1.1, (qfr N j).1.2.1, if (qfr N j).2.1 == 0 && i.1 == 0 then ((qfr N j).2.2.1, g, i.2.1, i.2.2) :: (qfr N j).1.2.2 else (qfr N j).1.2.2), (M.1, (if qkyb i then [(n, qky i, (qfr N j).2)] else []) ++ M.2.1, M.2.2), (qfr N j).2))
      | 1 => some ((qfrL N j).1, M, (qfrL N j).2)
      | 2 => if qac (fun ty => ty.1 == 2 && decide (ty.2.1 = j.1)) r.2.2 p.1.toNat p.2.toNat then (if j.1.toNat < D.2.2 then some (N, M, (3, j.1.toNat, 0)) else some (N, (M.1 ++ [j.1.toNat], M.2), (3, D.2.2 + M.1.length, 0))) else none
      | _ => none) else none
    | none => none)
section QA
variable {D : qWd} {γ : kΓ} {adr : List Nat} {σ : qσ} {ρ : qρ} {M : qM} {ws : va_W}
theorem q_rdA (hD : qD D) {N : qN} (hN : qsN D σ N) (hH : qsM D γ adr σ ρ M ws) (hdis : ∀ (i j : Nat) (p q : Nat × va_E), ws[i]? = some p → ws[j]? = some q → p.1 = q.1 → i = j) {t n g a q : Nat} {i : AV} {x : Int32} {c : va_E} {r : qRT} {p : qIv} (hgr : D.2.1[g]? = some r) (hc : ws[q]? = some (a, c)) (ha : ρ n = some a) (hty : ∀ k, k < r.2.1 → qexA ρ M.2.2 a k ∨ ∃ v, qrd c k = some v ∧ qvT D γ adr (qsg r.2.2 k) v)
    (hi : qR σ ρ i (.int x)) (hp : qIn p x.toInt) (h0 : 0 ≤ p.1) (h1 : p.2 < (r.2.1 : Int)) {z : qN × qM × AV} (hz : qrdA D t N M i n g r p = some z) :
    ∃ (σ' : qσ) (ρ' : qρ) (v : Value), qle1 σ σ' ∧ qle2 ρ ρ' ∧ qsN D σ' z.1 ∧ qsM D γ adr σ' ρ' z.2.1 ws ∧ qrd c x.toNatClampNeg = some v ∧ qR σ' ρ' z.2.2 v := by
  have hx := q_clamp (i := x) (Int.le_trans h0 hp.1)
  have hp' := hp
  simp only [qIn] at hp
  unfold qrdA at hz
  split at hz
  · rename_i he
    have e1 : x.toNatClampNeg = p.1.toNat := by omega
    rw [e1]
    exact q_rs hD hN hH hdis hc ha hty (by omega) hz
  · split at hz
    · rename_i j hj
      split at hz
      · rename_i hex
        simp only [List.all_eq_true, Bool.not_eq_true', Bool.and_eq_false_iff] at hex
        have k1 : p.1.toNat ≤ x.toNatClampNeg := by omega
        have k2 : x.toNatClampNeg ≤ p.2.toNat := by omega
        obtain ⟨j1, j2, j3⟩ := q_jn hj _ k1 k2
        have hv : ∃ v, qrd c x.toNatClampNeg = some v ∧ qvT D γ adr (qsg r.2.2 x.toNatClampNeg) v := by
          rcases hty _ (by omega : x.toNatClampNeg < r.2.1) with ⟨m, m1, -⟩ | h
          · rcases hex _ m1 with h9 | h9
            · rw [Nat.ble_eq_true_of_le k1] at h9; cases h9
            · rw [Nat.ble_eq_true_of_le k2] at h9; cases h9
          · exact h
        obtain ⟨v, v1, v2⟩ := hv
        split at hz
        · split at hz
          · rename_i e he
            cases hz
            have h5 := List.find?_some he
            simp only [Bool.and_eq_true, beq_iff_eq] at h5
            obtain ⟨kb, h5, h6⟩ := h5
            obtain ⟨n', k', av⟩ := e
            obtain ⟨q', a', c', v', ix, g1, g2, g3, g4, g5⟩ := hH.2.2.2.1 n' k' av (List.mem_of_find?_eq_some he)
            simp only at h5 h6
            subst h5
            subst h6
            rw [ha] at g2
            cases g2
            have := hdis q' q _ _ g1 hc rfl
            subst this
            rw [hc] at g1
            cases g1
            obtain ⟨u, hu, eu⟩ := (q_ky kb).mp g5
            have hi0 : i.1 = 0 := by unfold qkyb at kb; simp only [Bool.and_eq_true, beq_iff_eq] at kb; exact kb.1.1
            obtain ⟨u', hu', eu'⟩ := q_v0 hi hi0
            rw [hu] at hu'
            cases hu'
            have : ix = x.toNatClampNeg := by omega
            subst this
            exact ⟨σ, ρ, v', fun _ _ h => h, fun _ _ h => h, hN, hH, g3, g4⟩
          · cases hz
            obtain ⟨y, rfl, hy⟩ := v2.1 j1
            obtain ⟨σ', s1, s2, s3⟩ := q_fr (ρ := ρ) hN (iv := j) (x := y) ⟨Int.le_trans j2 hy.1, Int.le_trans hy.2 j3⟩
            have hM1 : qsM D γ adr σ' ρ (M.1, (if qkyb i then [(n, qky i, (qfr N j).2)] else []) ++ M.2.1, M.2.2) ws := by
              by_cases kb : qkyb i = true
              · rw [if_pos kb]
                have hi0 : i.1 = 0 := by unfold qkyb at kb; simp only [Bool.and_eq_true, beq_iff_eq] at kb; exact kb.1.1
                obtain ⟨u', hu', eu'⟩ := q_v0 hi hi0
                exact q_addx (hH.monoσ s1) hc ha v1 s3 ((q_ky kb).mpr ⟨u', s1 _ _ hu', by omega⟩)
              · rw [if_neg kb]
                exact hH.monoσ s1
            refine ⟨σ', ρ, _, s1, fun _ _ h => h, ⟨s2.1, s2.2.1, s2.2.2.1, fun w g' V d hm => ?_⟩, hM1, v1, s3⟩
            simp only at hm
            split at hm
            · rename_i hq
              simp only [Bool.and_eq_true, beq_iff_eq] at hq
              rcases List.mem_cons.mp hm with hm | hm
              · cases hm
                rcases s3 with ⟨_, y', y2, e, hs, hx2⟩ | ⟨t9, _⟩ | ⟨t9, _⟩ | ⟨t9, _⟩
                · cases e
                  rcases hi with ⟨_, x', u, e, hu, hx3⟩ | ⟨t9, _⟩ | ⟨t9, _⟩ | ⟨t9, _⟩
                  · cases e
                    have hd0 : (qfr N j).2.2.2 = 0 := by
                      unfold qfr
                      unfold qfr at hq
                      split
                      · rename_i h9; rw [if_pos h9] at hq; exact absurd (show (1 : Nat) = 0 from hq.1) (by decide)
                      · rfl
                    rw [hd0] at hx2
                    refine ⟨r, y2, u, hgr, hs, s1 _ _ hu, by omega, fun _ => ?_⟩
                    have : (u + i.2.2).toNat = x.toNatClampNeg := by omega
                    rw [this]
                    have : y2 = y.toInt := by omega
                    rw [this]
                    exact hy
                  · rw [hq.2] at t9; cases t9
                  · rw [hq.2] at t9; cases t9
                  · rw [hq.2] at t9; cases t9
                · rw [hq.1] at t9; cases t9
                · rw [hq.1] at t9; cases t9
                · rw [hq.1] at t9; cases t9
              · exact s2.2.2.2 w g' V d hm
            · exact s2.2.2.2 w g' V d hm
        · cases hz
          obtain ⟨y, rfl, hy⟩ := v2.2.1 j1
          obtain ⟨σ', s1, s2, s3⟩ := q_frL (ρ := ρ) hN (iv := j) (x := y) ⟨Int.le_trans j2 hy.1, Int.le_trans hy.2 j3⟩
          exact ⟨σ', ρ, _, s1, fun _ _ h => h, s2, hH.monoσ s1, v1, s3⟩
        · split at hz
          · rename_i hjj
            obtain ⟨b, rfl, hb⟩ := v2.2.2 j1
            have hreg := q_ac hjj _ k1 k2
            simp only [Bool.and_eq_true, decide_eq_true_eq] at hreg
            rw [hreg.2] at hb
            split at hz
            · rename_i hlt
              cases hz
              exact ⟨σ, ρ, _, fun _ _ h => h, fun _ _ h => h, hN, hH, v1, .inr (.inr (.inr ⟨rfl, b, rfl, q_sing hD hH hlt hb⟩))⟩
            · cases hz
              obtain ⟨ρ', s1, s2, s3⟩ := q_frR hH hb
              exact ⟨σ, ρ', _, fun _ _ h => h, s1, hN, s2, v1, .inr (.inr (.inr ⟨rfl, b, rfl, s3⟩))⟩
          · cases hz
        · cases hz
      · cases hz
    · cases hz
/-- stores at an index that isn't one number -/
def qsubT (t0 t : qTy) : Bool := t0.1 == 0 && t.1 == 0 && qle t.2.1 t0.2.1 && qle t0.2.2 t.2.2
/-- two rows of types side by side, from a and from b on, n places -/
def qwk : Nat → List (Nat × qTy) → Nat → List (Nat × qTy) → Nat → Nat → Bool
  | 0, _, _, _, _, n => n == 0
  | f + 1, s, a, d, b, n => if n = 0 then true else (match s, d with
    | (e0, t0) :: s', (e, t) :: d' => if e0 ≤ a then qwk f s' a d b n else if e ≤ b then qwk f s a d' b n else qsubT t0 t && qwk f s (a + Nat.min (Nat.min (e0 - a) (e - b)) n) d (b + Nat.min (Nat.min (e0 - a) (e - b)) n) (n - Nat.min (Nat.min (e0 - a) (e - b)) n)
    | _, _ => false)
theorem q_wk : ∀ (f : Nat) (s : List (Nat × qTy)) (a : Nat) (d : List (Nat × qTy)) (b n : Nat), qwk f s a d b n = true → ∀ j, j < n → qsubT (qsg s (a + j)) (qsg d (b + j)) = true
  | 0, s, a, d, b, n, h, j, hj => by
    unfold qwk at h
    rw [beq_iff_eq] at h
    omega
  | f + 1, s, a, d, b, n, h, j, hj => by
    unfold qwk at h
    rw [if_neg (by omega)] at h
    split at h
    · rename_i e0 t0 s' e t d'
      split at h
      · rename_i h1
        have := q_wk f s' a _ b n h j hj
        have e1 : qsg ((e0, t0) :: s') (a + j) = qsg s' (a + j) := by
          rw [qsg, if_neg (by omega)]
        rw [e1]; exact this
      · rename_i h1
        split at h
        · rename_i h2
          have := q_wk f _ a d' b n h j hj
          have e1 : qsg ((e, t) :: d') (b + j) = qsg d' (b + j) := by
            rw [qsg, if_neg (by omega)]
          rw [e1]; exact this
        · rename_i h2
          rw [Bool.and_eq_true] at h
          generalize hm : Nat.min (Nat.min (e0 - a) (e - b)) n = m at h
          have m1 : m ≤ e0 - a := by rw [← hm]; exact Nat.le_trans (Nat.min_le_left _ _) (Nat.min_le_left _ _)
          have m2 : m ≤ e - b := by rw [← hm]; exact Nat.le_trans (Nat.min_le_left _ _) (Nat.min_le_right _ _)
          by_cases hjm : j < m
          · have e1 : qsg ((e0, t0) :: s') (a + j) = t0 := by rw [qsg, if_pos (by omega)]
            have e2 : qsg ((e, t) :: d') (b + j) = t := by rw [qsg, if_pos (by omega)]
            rw [e1, e2]; exact h.1
          · have := q_wk f _ (a + m) _ (b + m) (n - m) h.2 (j - m) (by omega)
            rw [show a + m + (j - m) = a + j by omega, show b + m + (j - m) = b + j by omega] at this
            exact this
    · cases h
def qorg (D : qWd) (N : qN) (r : qRT) (i a : AV) : Bool :=
  a.1 == 0 && decide (a.2.2 = 0) && i.1 == 0 && (match N.1[i.2.1]? with
    | some p => qle 0 (p.1 + i.2.2) && N.2.2.any (fun o => o.1 == a.2.1 && o.2.2.1 == i.2.1 && (match D.2.1[o.2.1]? with
      | some r0 => qle 0 (p.1 + o.2.2.2) && qwk (2 * (r0.2.2.length + r.2.2.length) + 5) r0.2.2 (p.1 + o.2.2.2).toNat r.2.2 (p.1 + i.2.2).toNat ((p.2 - p.1).toNat + 1)
      | none => false))
    | none => false)
theorem q_org {N : qN} (hN : qsN D σ N) {r : qRT} {i a : AV} {x y : Int32} (hi : qR σ ρ i (.int x)) (ha : qR σ ρ a (.int y)) (h0 : 0 ≤ x.toInt) (h : qorg D N r i a = true) : qvT D γ adr (qsg r.2.2 x.toNatClampNeg) (.int y) := by
  have hx := q_clamp h0
  unfold qorg at h
  simp only [Bool.and_eq_true, beq_iff_eq, decide_eq_true_eq] at h
  obtain ⟨⟨⟨a1, a2⟩, i1⟩, h⟩ := h
  split at h
  · rename_i p hp
    simp only [Bool.and_eq_true, qle, decide_eq_true_eq, List.any_eq_true, beq_iff_eq] at h
    obtain ⟨h1, ⟨v, g, V, d⟩, ho, ⟨e1, e2⟩, h2⟩ := h
    simp only at e1 e2 h2
    split at h2
    · rename_i r0 hr0
      simp only [Bool.and_eq_true, decide_eq_true_eq] at h2
      obtain ⟨h3, h4⟩ := h2
      have h4 := q_wk _ _ _ _ _ _ h4
      rcases hi with ⟨_, x', u, e, hu, hx3⟩ | ⟨t9, _⟩ | ⟨t9, _⟩ | ⟨t9, _⟩
      · cases e
        rcases ha with ⟨_, y', w, e, hw, hy3⟩ | ⟨t9, _⟩ | ⟨t9, _⟩ | ⟨t9, _⟩
        · cases e
          obtain ⟨r1, w', u', f0, f1, f2, f3, f4⟩ := hN.2.2.2 v g V d ho
          subst e1; subst e2
          rw [hr0] at f0; cases f0
          rw [hw] at f1; cases f1
          rw [hu] at f2; cases f2
          obtain ⟨u2, f5, f6⟩ := hN.2.1 _ _ hp
          rw [hu] at f5; cases f5
          simp only [qIn] at f6
          have h5 := h4 (u - p.1).toNat (by omega)
          have q1 : (p.1 + d).toNat + (u - p.1).toNat = (u + d).toNat := by omega
          have q2 : (p.1 + i.2.2).toNat + (u - p.1).toNat = x.toNatClampNeg := by omega
          rw [q1, q2] at h5
          unfold qsubT at h5
          simp only [Bool.and_eq_true, beq_iff_eq, qle, decide_eq_true_eq] at h5
          obtain ⟨⟨⟨g1, g2⟩, g3⟩, g4⟩ := h5
          have f7 := f4 g1
          simp only [qIn] at f7
          exact ⟨fun _ => ⟨y, rfl, by simp only [qIn]; omega⟩, fun h => absurd (g2.symm.trans h) (by decide), fun h => absurd (g2.symm.trans h) (by decide)⟩
        · rw [a1] at t9; cases t9
        · rw [a1] at t9; cases t9
        · rw [a1] at t9; cases t9
      · rw [i1] at t9; cases t9
      · rw [i1] at t9; cases t9
      · rw [i1] at t9; cases t9
    · cases h2
  · cases h
def qwrA (D : qWd) (ms : qMods) (xr : List Nat) (N : qN) (M : qM) (i : AV) (n g : Nat) (r : qRT) (p : qIv) (a : AV) : Option qM :=
  if p.1 = p.2 then qwr D ms xr N M n g p.1.toNat r a
  else if ms.any (fun m => m.1 == g && Nat.ble m.2.1 p.1.toNat && Nat.ble p.2.toNat m.2.2) && !(xr.contains g) && M.2.2.all (fun e => !(Nat.ble p.1.toNat e.2 && Nat.ble e.2 p.2.toNat)) && (qac (qtk D N M a) r.2.2 p.1.toNat p.2.toNat || qorg D N r i a) then some (qcl D M g p.1.toNat p.2.toNat) else none
theorem q_submem {L L' : List (Nat × Nat × AV)} {rn : List Nat} {ex : List (Nat × Nat)} (h : qsM D γ adr σ ρ (rn, L, ex) ws) (hs : ∀ e ∈ L', e ∈ L) : qsM D γ adr σ ρ (rn, L', ex) ws := ⟨h.1, h.2.1, h.2.2.1, fun n k av hm => h.2.2.2.1 n k av (hs _ hm), h.2.2.2.2⟩
theorem q_wrA (hD : qD D) {N : qN} (hN : qsN D σ N) (hH : qsM D γ adr σ ρ M ws) (hdis : ∀ (i j : Nat) (p q : Nat × va_E), ws[i]? = some p → ws[j]? = some q → p.1 = q.1 → i = j) {ms : qMods} {xr : List Nat} {w0 : va_W} {X : va_W → Prop} (hX : ∀ (ws : va_W) (q g a : Nat) (c : va_E), D.1[q]? = some g → ¬ g ∈ xr → ws.map Prod.fst = adr → adr[q]? = some a → X ws → X (ws.set q (a, c))) (hx : X ws) (hK : qK D ms w0 ws)
    {n g q a : Nat} {r : qRT} {i av : AV} {x : Int32} {v : Value} {c c' : va_E} {p : qIv} (hi : qR σ ρ i (.int x)) (hp : qIn p x.toInt) (h0 : 0 ≤ p.1) (hg : D.1[q]? = some g) (hr : D.2.1[g]? = some r) (hc : ws[q]? = some (a, c)) (ha : ρ n = some a) (hv : qR σ ρ av v) (hs : qsame γ r c c' x.toNatClampNeg x.toNatClampNeg) (hv' : qrd c' x.toNatClampNeg = some v)
    (hint : (∃ z, v = .int z) ∨ qac (qtk D N M av) r.2.2 p.1.toNat p.2.toNat = true ∨ p.1 = p.2) {M' : qM} (hz : qwrA D ms xr N M i n g r p av = some M') :
    qsM D γ adr σ ρ M' (ws.set q (a, c')) ∧ X (ws.set q (a, c')) ∧ qK D ms w0 (ws.set q (a, c')) := by
  have hxc := q_clamp (i := x) (Int.le_trans h0 hp.1)
  simp only [qIn] at hp
  unfold qwrA at hz
  split at hz
  · have e1 : p.1.toNat = x.toNatClampNeg := by omega
    rw [e1] at hz
    exact q_wrS hD hN hH hdis hX hx hK hg hr hc ha hv hs hv' rfl hz
  · rename_i hne
    split at hz
    · rename_i h1
      simp only [Bool.and_eq_true, Bool.not_eq_true'] at h1
      obtain ⟨⟨⟨h1, h2⟩, h3⟩, h4⟩ := h1
      have k1 : p.1.toNat ≤ x.toNatClampNeg := by omega
      have k2 : x.toNatClampNeg ≤ p.2.toNat := by omega
      have hX' : X (ws.set q (a, c')) := hX ws q g a c' hg (by simpa using h2) hH.2.2.2.2.1 (q_adr2 hH hc) hx
      have hm : ms.any (fun m => m.1 == g && Nat.ble m.2.1 x.toNatClampNeg && Nat.ble x.toNatClampNeg m.2.2) = true := by
        rw [List.any_eq_true] at h1 ⊢
        obtain ⟨m, m1, m2⟩ := h1
        simp only [Bool.and_eq_true, beq_iff_eq, Nat.ble_eq] at m2
        exact ⟨m, m1, by simp only [Bool.and_eq_true, beq_iff_eq, Nat.ble_eq]; omega⟩
      refine ⟨?_, hX', q_keep hK hg hc hs.2 hm⟩
      cases hz
      have hvt : qvT D γ adr (qsg r.2.2 x.toNatClampNeg) v := by
        simp only [Bool.or_eq_true] at h4
        rcases h4 with h4 | h4
        · exact q_tk hD hN hH hv (q_ac h4 _ k1 k2)
        · rcases hint with ⟨z5, h5⟩ | h5 | h5
          · subst h5; exact q_org hN hi hv (by omega) h4
          · exact q_tk hD hN hH hv (q_ac h5 _ k1 k2)
          · exact absurd h5 hne
      have := q_wr hD hH hdis hg hr hc hs (ex' := M.2.2) (fun a' k' h _ => h) (fun k' _ l1 l2 => .inr (by
          have : k' = x.toNatClampNeg := by omega
          subst this
          exact ⟨_, hv', hvt⟩))
      refine q_submem this (fun e he => ?_)
      unfold qcl at he ⊢
      rw [List.mem_filter] at he ⊢
      refine ⟨he.1, ?_⟩
      have h6 := he.2
      simp only [Bool.not_eq_true', Bool.and_eq_false_iff, Bool.or_eq_false_iff] at h6 ⊢
      rcases h6 with ⟨h6 | h6, h60⟩ | h6
      · refine .inl ⟨.inl ?_, h60⟩
        cases h9 : Nat.ble x.toNatClampNeg e.2.1 with
        | false => rfl
        | true => rw [Nat.ble_eq] at h9; rw [Nat.ble_eq_true_of_le (by omega)] at h6; cases h6
      · refine .inl ⟨.inr ?_, h60⟩
        cases h9 : Nat.ble e.2.1 x.toNatClampNeg with
        | false => rfl
        | true => rw [Nat.ble_eq] at h9; rw [Nat.ble_eq_true_of_le (by omega)] at h6; cases h6
      · exact .inr h6
    · cases hz
end QA

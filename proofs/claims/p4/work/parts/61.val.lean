/-! differences, ranks -/
def qvl (σ : qσ) (a : AV) : Option Int := if a.1 = 0 then (σ a.2.1).map (fun y => y + a.2.2) else if a.1 = 1 then some a.2.2 else none
theorem q_vl {σ : qσ} {ρ : qρ} {a : AV} {x : Int32} (h : qR σ ρ a (.int x)) : qvl σ a = some x.toInt := by
  unfold qvl
  rcases h with ⟨t, x', y, e, hs, hx⟩ | ⟨t, x', e, hx⟩ | ⟨t, x', e, hs⟩ | ⟨t, n, e, hs⟩
  · cases e; rw [t, hs]; simp [hx]
  · cases e; rw [t]; simp [hx]
  · cases e
  · cases e
theorem q_ivV {D : qWd} {σ : qσ} {N : qN} (h : qsN D σ N) {a : AV} {x : Int} (hv : qvl σ a = some x) {p : qIv} (hp : qiv N a = some p) : qIn p x := by
  unfold qvl at hv
  unfold qiv at hp
  by_cases h0 : a.1 = 0
  · rw [if_pos h0, Option.map_eq_some_iff] at hv hp
    obtain ⟨y, hy, rfl⟩ := hv
    obtain ⟨q, hq, rfl⟩ := hp
    obtain ⟨z, h3, h4⟩ := h.2.1 _ _ hq
    rw [hy] at h3
    cases h3
    simp only [qIn] at *; omega
  · rw [if_neg h0] at hv hp
    by_cases h1 : a.1 = 1
    · rw [if_pos h1] at hv hp
      cases hv; cases hp
      simp only [qIn]; omega
    · rw [if_neg h1] at hv; cases hv
def qge : Nat → qN → AV → AV → Int → Bool
  | 0, N, a, b, d => (a.1 == 0 && b.1 == 0 && a.2.1 == b.2.1 && qle (b.2.2 + d) a.2.2) || (match qiv N a, qiv N b with
    | some p, some q => qle (q.2 + d) p.1
    | _, _ => false)
  | f + 1, N, a, b, d => (a.1 == 0 && b.1 == 0 && a.2.1 == b.2.1 && qle (b.2.2 + d) a.2.2) || (match qiv N a, qiv N b with
    | some p, some q => qle (q.2 + d) p.1
    | _, _ => false) || (a.1 == 0 && N.2.1.any (fun r => r.1 == a.2.1 && qge f N (0, r.2.1, r.2.2 + a.2.2) b d))
theorem q_ge0 {D : qWd} {σ : qσ} {N : qN} (h : qsN D σ N) {a b : AV} {d x y : Int} (ha : qvl σ a = some x) (hb : qvl σ b = some y) (hc : ((a.1 == 0 && b.1 == 0 && a.2.1 == b.2.1 && qle (b.2.2 + d) a.2.2) || (match qiv N a, qiv N b with
    | some p, some q => qle (q.2 + d) p.1
    | _, _ => false)) = true) : y + d ≤ x := by
  simp only [Bool.or_eq_true] at hc
  rcases hc with hc | hc
  · simp only [Bool.and_eq_true, beq_iff_eq, qle, decide_eq_true_eq] at hc
    obtain ⟨⟨⟨h1, h2⟩, h3⟩, h4⟩ := hc
    unfold qvl at ha hb
    rw [if_pos h1, Option.map_eq_some_iff] at ha
    rw [if_pos h2, Option.map_eq_some_iff] at hb
    obtain ⟨u, hu, rfl⟩ := ha
    obtain ⟨w, hw, rfl⟩ := hb
    rw [h3, hw] at hu
    cases hu
    omega
  · split at hc
    · rename_i p q hp hq
      simp only [qle, decide_eq_true_eq] at hc
      have h1 := (q_ivV h ha hp).1
      have h2 := (q_ivV h hb hq).2
      omega
    · cases hc
theorem q_ge {D : qWd} {σ : qσ} {N : qN} (h : qsN D σ N) : ∀ (f : Nat) {a b : AV} {d x y : Int}, qvl σ a = some x → qvl σ b = some y → qge f N a b d = true → y + d ≤ x
  | 0, a, b, d, x, y, ha, hb, hc => q_ge0 h ha hb hc
  | f + 1, a, b, d, x, y, ha, hb, hc => by
    unfold qge at hc
    rw [Bool.or_eq_true] at hc
    rcases hc with hc | hc
    · exact q_ge0 h ha hb hc
    · simp only [Bool.and_eq_true, beq_iff_eq, List.any_eq_true] at hc
      obtain ⟨h1, ⟨u, w, e⟩, hr, h2, h3⟩ := hc
      simp only at h2 h3
      obtain ⟨xu, xw, g1, g2, g3⟩ := h.2.2.1 u w e hr
      have ha' := ha
      unfold qvl at ha'
      rw [if_pos h1, Option.map_eq_some_iff] at ha'
      obtain ⟨z, hz, rfl⟩ := ha'
      subst h2
      rw [hz] at g1
      cases g1
      have := q_ge h f (a := (0, w, e + a.2.2)) (b := b) (d := d) (x := xw + (e + a.2.2)) (y := y) (by unfold qvl; simp [g2]) hb h3
      omega
/-- linear forms -/
abbrev qLin : Type := Int × List (Int × Nat)
def qlv1 (σ : qσ) (L : List (Int × Nat)) : Option Int :=
  match L with
  | [] => some 0
  | (c, v) :: r => (match σ v, qlv1 σ r with
    | some x, some y => some (c * x + y)
    | _, _ => none)
def qput (c : Int) (v : Nat) : List (Int × Nat) → List (Int × Nat)
  | [] => [(c, v)]
  | (c', v') :: r => if v' = v then (c' + c, v) :: r else (c', v') :: qput c v r
theorem q_put {σ : qσ} {c : Int} {v : Nat} {x : Int} (hx : σ v = some x) : ∀ {L : List (Int × Nat)} {y : Int}, qlv1 σ L = some y → qlv1 σ (qput c v L) = some (c * x + y)
  | [], y, h => by
    simp only [qlv1, Option.some.injEq] at h
    subst h
    simp [qput, qlv1, hx]
  | (c', v') :: r, y, h => by
    unfold qlv1 at h
    split at h
    · rename_i a b ha hb
      cases h
      unfold qput
      by_cases e : v' = v
      · rw [if_pos e]
        subst e
        rw [hx] at ha
        cases ha
        unfold qlv1
        rw [hx, hb]
        simp only [Option.some.injEq]
        rw [Int.add_mul]; omega
      · rw [if_neg e]
        unfold qlv1
        rw [ha, q_put hx hb]
        simp only [Option.some.injEq]
        omega
    · cases h
/-- an upper bound by the intervals -/
def qub (N : qN) : List (Int × Nat) → Option Int
  | [] => some 0
  | (c, v) :: r => (match N.1[v]?, qub N r with
    | some p, some y => some ((if qle 0 c then c * p.2 else c * p.1) + y)
    | _, _ => none)
theorem q_ub {D : qWd} {σ : qσ} {N : qN} (h : qsN D σ N) : ∀ {L : List (Int × Nat)} {y u : Int}, qlv1 σ L = some y → qub N L = some u → y ≤ u
  | [], y, u, h1, h2 => by
    simp only [qlv1, Option.some.injEq] at h1
    simp only [qub, Option.some.injEq] at h2
    omega
  | (c, v) :: r, y, u, h1, h2 => by
    unfold qlv1 at h1
    unfold qub at h2
    split at h1
    · rename_i a b ha hb
      cases h1
      split at h2
      · rename_i p w hp hw
        cases h2
        have ih := q_ub h hb hw
        obtain ⟨z, h3, h4⟩ := h.2.1 _ _ hp
        rw [ha] at h3
        cases h3
        simp only [qIn] at h4
        have : c * a ≤ (if qle 0 c then c * p.2 else c * p.1) := by
          by_cases hc : 0 ≤ c
          · simp only [qle, hc, decide_true, if_true]
            exact Int.mul_le_mul_of_nonneg_left h4.2 hc
          · simp only [qle, hc, decide_false, Bool.false_eq_true, if_false]
            exact Int.mul_le_mul_of_nonpos_left (by omega) h4.1
        omega
      · cases h2
    · cases h1
/-- a variable out of the form, by a difference -/
def qcoef (v : Nat) (L : List (Int × Nat)) : Int := match L.find? (fun q => q.2 == v) with
  | some q => q.1
  | none => 0
def qdrop (v : Nat) : List (Int × Nat) → List (Int × Nat)
  | [] => []
  | (c, w) :: r => if w = v then r else (c, w) :: qdrop v r
theorem q_drop {σ : qσ} {v : Nat} {x : Int} (hx : σ v = some x) : ∀ {L : List (Int × Nat)} {y : Int}, qlv1 σ L = some y → qlv1 σ (qdrop v L) = some (y - qcoef v L * x)
  | [], y, h => by
    simp only [qlv1, Option.some.injEq] at h
    subst h
    simp [qdrop, qcoef, qlv1]
  | (c, w) :: r, y, h => by
    unfold qlv1 at h
    split at h
    · rename_i a b ha hb
      cases h
      unfold qdrop qcoef
      by_cases e : w = v
      · rw [if_pos e]
        subst e
        rw [hx] at ha
        cases ha
        simp only [List.find?_cons, beq_self_eq_true]
        rw [hb]
        simp only [Option.some.injEq]; omega
      · rw [if_neg e]
        have hne : (w == v) = false := by simpa using e
        simp only [List.find?_cons, hne]
        have ih := q_drop hx hb
        unfold qcoef at ih
        unfold qlv1
        rw [ha, ih]
        simp only [Option.some.injEq]
        omega
    · cases h
def qelim : List (Nat × Nat × Int) → Nat → qLin → qLin
  | [], _, L => L
  | (a, b, d) :: r, n0, L => if Nat.ble n0 a && decide (qcoef a L.2 < 0) then qelim r n0 (L.1 + qcoef a L.2 * d, qput (qcoef a L.2) b (qdrop a L.2)) else qelim r n0 L
theorem q_elim {σ : qσ} {n0 : Nat} : ∀ {rl : List (Nat × Nat × Int)} (_ : ∀ a b d, (a, b, d) ∈ rl → ∃ x y, σ a = some x ∧ σ b = some y ∧ y + d ≤ x) {L : qLin} {y : Int}, qlv1 σ L.2 = some y → ∃ y', qlv1 σ (qelim rl n0 L).2 = some y' ∧ L.1 + y ≤ (qelim rl n0 L).1 + y'
  | [], _, L, y, h => ⟨y, h, Int.le_refl _⟩
  | (a, b, d) :: r, hr, L, y, h => by
    unfold qelim
    have hr' : ∀ a b d, (a, b, d) ∈ r → ∃ x y, σ a = some x ∧ σ b = some y ∧ y + d ≤ x := fun a b d hm => hr a b d (List.mem_cons_of_mem _ hm)
    split
    · rename_i hc
      simp only [Bool.and_eq_true, decide_eq_true_eq] at hc
      obtain ⟨x, z, h1, h2, h3⟩ := hr a b d List.mem_cons_self
      have e1 := q_drop h1 h
      have e2 := q_put (c := qcoef a L.2) h2 e1
      obtain ⟨y', g1, g2⟩ := q_elim (n0 := n0) hr' (L := (L.1 + qcoef a L.2 * d, qput (qcoef a L.2) b (qdrop a L.2))) e2
      refine ⟨y', g1, Int.le_trans ?_ g2⟩
      show L.1 + y ≤ L.1 + qcoef a L.2 * d + (qcoef a L.2 * z + (y - qcoef a L.2 * x))
      have : qcoef a L.2 * x ≤ qcoef a L.2 * (z + d) := Int.mul_le_mul_of_nonpos_left (by omega) (by omega)
      rw [Int.mul_add] at this
      omega
    · exact q_elim hr' h

/-! cuts found by matching; ranks; the run -/
def qsetO {α : Type} (l : List (Option α)) (v : Nat) (b : α) : List (Option α) := match l[v]? with
  | some none => l.set v (some b)
  | _ => l
abbrev qTo : Type := List (Option AV) × List (Option Nat)
def quni (nS : Nat) (θ : qTo) (a b : AV) : qTo :=
  if a.1 = 0 then (if qint b then (qsetO θ.1 a.2.1 (b.1, b.2.1, b.2.2 - a.2.2), θ.2) else θ)
  else if a.1 = 2 then (qsetO θ.1 a.2.1 b, θ.2)
  else if a.1 = 3 then (if a.2.1 < nS then θ else (θ.1, qsetO θ.2 (a.2.1 - nS) b.2.1))
  else θ
def qthO (nS : Nat) (θ : qTo) (n : Nat) : Option Nat := if n < nS then some n else (θ.2[n - nS]?).join
def qfold (nS : Nat) (SL : List (Nat × AV)) : List (Nat × AV) → qTo → qTo
  | [], θ => θ
  | q :: r, θ => qfold nS SL r (match SL.find? (fun z => z.1 == q.1) with
    | some z => quni nS θ q.2 z.2
    | none => θ)
def qfold2 (nS : Nat) : List AV → List AV → qTo → qTo
  | a :: as, b :: bs, θ => qfold2 nS as bs (quni nS θ a b)
  | _, _, θ => θ
def qfold3 (nS : Nat) (SM : List (Nat × Nat × AV)) : List (Nat × Nat × AV) → qTo → qTo
  | [], θ => θ
  | e :: r, θ => qfold3 nS SM r (match qthO nS θ e.1 with
    | some m => (match SM.find? (fun f => f.1 == m && f.2.1 == e.2.1) with
      | some f => quni nS θ e.2.2 f.2.2
      | none => θ)
    | none => θ)
def qends {α : Type} (f : Nat → α) : Nat → List (Option α) → List α
  | _, [] => []
  | n, a :: r => (match a with
    | some x => x
    | none => f n) :: qends f (n + 1) r
def qmatch (D : qWd) (lk : List Nat) (S C : AS) : qTh :=
  let θ0 : qTo := (C.1.1.map (fun _ => none), C.2.2.1.map (fun _ => none))
  let θ1 := qfold3 D.2.2 S.2.2.2.1 C.2.2.2.1 (qfold2 D.2.2 C.2.1.2 S.2.1.2 (qfold D.2.2 S.2.1.1 C.2.1.1 θ0))
  (qends (fun v => if lk.contains v then (2, v, 0) else (0, v, 0)) 0 θ1.1, qends (fun v => v) 0 θ1.2)
/-- for n0 entry variables the substitution is the identity -/
def qfix (lk : List Nat) (n0 : Nat) (θ : qTh) : qTh := ((List.range n0).map (fun v => if lk.contains v then (2, v, 0) else (0, v, 0)) ++ θ.1.drop n0, θ.2)
/-- a linear form behind a substitution -/
def qsubL (θ : List AV) : List (Int × Nat) → Option qLin
  | [] => some (0, [])
  | (c, v) :: r => (match θ[v]?, qsubL θ r with
    | some t, some L => if t.1 = 0 then some (L.1 + c * t.2.2, qput c t.2.1 L.2) else if t.1 = 1 then some (L.1 + c * t.2.2, L.2) else none
    | _, _ => none)
theorem q_subL {σ : qσ} {θ : qTh} : ∀ {L : List (Int × Nat)} {y : Int} {F : qLin}, qlv1 (qσθ σ θ) L = some y → qsubL θ.1 L = some F → ∃ z, qlv1 σ F.2 = some z ∧ y = F.1 + z
  | [], y, F, h1, h2 => by
    cases h2
    simp only [qlv1, Option.some.injEq] at h1
    exact ⟨0, rfl, by simp; omega⟩
  | (c, v) :: r, y, F, h1, h2 => by
    unfold qlv1 at h1
    unfold qsubL at h2
    split at h1
    · rename_i a b ha hb
      cases h1
      split at h2
      · rename_i t L ht hL
        obtain ⟨z, z1, z2⟩ := q_subL hb hL
        unfold qσθ at ha
        rw [ht] at ha
        simp only at ha
        split at h2
        · rename_i t0
          cases h2
          rw [if_neg (by omega)] at ha
          unfold qvl at ha
          rw [if_pos t0, Option.map_eq_some_iff] at ha
          obtain ⟨u, u1, rfl⟩ := ha
          refine ⟨_, q_put u1 z1, ?_⟩
          rw [Int.mul_add]
          show _ = L.1 + c * t.2.2 + (c * u + z)
          omega
        · split at h2
          · rename_i t0 t1
            cases h2
            rw [if_neg (by omega)] at ha
            unfold qvl at ha
            rw [if_neg t0, if_pos t1] at ha
            cases ha
            refine ⟨z, z1, ?_⟩
            show _ = L.1 + c * t.2.2 + z
            omega
          · cases h2
      · cases h2
    · cases h1
def qmin1 : List (Int × Nat) → List (Int × Nat) → List (Int × Nat)
  | [], F => F
  | (c, v) :: r, F => qput (-c) v (qmin1 r F)
theorem q_min1 {σ : qσ} : ∀ {L F : List (Int × Nat)} {x y : Int}, qlv1 σ L = some x → qlv1 σ F = some y → qlv1 σ (qmin1 L F) = some (y - x)
  | [], F, x, y, h1, h2 => by
    simp only [qlv1, Option.some.injEq] at h1
    subst h1
    simpa [qmin1] using h2
  | (c, v) :: r, F, x, y, h1, h2 => by
    unfold qlv1 at h1
    split at h1
    · rename_i a b ha hb
      cases h1
      have ih := q_min1 hb h2
      have := q_put (c := -c) ha ih
      unfold qmin1
      rw [this]
      simp only [Option.some.injEq]
      rw [Int.neg_mul]; omega
    · cases h1
theorem q_lvm {σ σ' : qσ} (h : qle1 σ σ') : ∀ {L : List (Int × Nat)} {y : Int}, qlv1 σ L = some y → qlv1 σ' L = some y
  | [], _, h1 => h1
  | (c, v) :: r, y, h1 => by
    unfold qlv1 at h1
    split at h1
    · rename_i a b ha hb
      cases h1
      unfold qlv1
      rw [h _ _ ha, q_lvm h hb]
    · cases h1
/-- is the rank behind θ less than the rank L0 at the start -/
def qdec (N : qN) (n1 : Nat) (θ : qTh) (L L0 : qLin) : Bool := match qsubL θ.1 L.2 with
  | some F => (match qub N (qelim N.2.1 n1 (F.1 + L.1 - L0.1 + 1, qmin1 L0.2 F.2)).2 with
    | some u => qle ((qelim N.2.1 n1 (F.1 + L.1 - L0.1 + 1, qmin1 L0.2 F.2)).1 + u) 0
    | none => false)
  | none => false
theorem q_dec {D : qWd} {σ : qσ} {N : qN} (hN : qsN D σ N) {n1 : Nat} {θ : qTh} {L L0 : qLin} {y y0 : Int} (h1 : qlv1 (qσθ σ θ) L.2 = some y) (h0 : qlv1 σ L0.2 = some y0) (h : qdec N n1 θ L L0 = true) : L.1 + y + 1 ≤ L0.1 + y0 := by
  unfold qdec at h
  split at h
  · rename_i F hF
    obtain ⟨z, z1, z2⟩ := q_subL h1 hF
    have hm := q_min1 h0 z1
    obtain ⟨y', e1, e2⟩ := q_elim (n0 := n1) hN.2.2.1 (L := (F.1 + L.1 - L0.1 + 1, qmin1 L0.2 F.2)) hm
    split at h
    · rename_i u hu
      simp only [qle, decide_eq_true_eq] at h
      have := q_ub hN e1 hu
      simp only at e2
      omega
    · cases h
  · cases h
def qneg1 (L : List (Int × Nat)) : List (Int × Nat) := L.map (fun q => (-q.1, q.2))
theorem q_neg1 {σ : qσ} : ∀ {L : List (Int × Nat)} {y : Int}, qlv1 σ L = some y → qlv1 σ (qneg1 L) = some (-y)
  | [], y, h => by
    simp only [qlv1, Option.some.injEq] at h
    subst h; rfl
  | (c, v) :: r, y, h => by
    unfold qlv1 at h
    split at h
    · rename_i a b ha hb
      cases h
      have ih := q_neg1 hb
      unfold qneg1 at ih ⊢
      rw [List.map_cons]
      unfold qlv1
      rw [ha, ih]
      simp only [Option.some.injEq]
      rw [Int.neg_mul]; omega
    · cases h
/-- the rank of a cut is a number, and none below 0 -/
def qpos (C : AS) (L : qLin) : Bool := match qub C.1 (qneg1 L.2) with
  | some u => qle u L.1
  | none => false
theorem q_some {D : qWd} {σ : qσ} {N : qN} (hN : qsN D σ N) : ∀ {L : List (Int × Nat)} {u : Int}, qub N L = some u → ∃ y, qlv1 σ L = some y
  | [], _, _ => ⟨0, rfl⟩
  | (c, v) :: r, u, h => by
    unfold qub at h
    split at h
    · rename_i p w hp hw
      obtain ⟨y, hy⟩ := q_some hN hw
      obtain ⟨x, hx, -⟩ := hN.2.1 _ _ hp
      unfold qlv1
      rw [hx, hy]
      exact ⟨_, rfl⟩
    · cases h
theorem q_neg2 (L : List (Int × Nat)) : qneg1 (qneg1 L) = L := by
  unfold qneg1
  rw [List.map_map]
  conv => rhs; rw [← List.map_id L]
  congr 1
  funext q
  simp
theorem q_pos {D : qWd} {σ : qσ} {C : AS} (hN : qsN D σ C.1) {L : qLin} (h : qpos C L = true) : ∃ y, qlv1 σ L.2 = some y ∧ 0 ≤ L.1 + y := by
  unfold qpos at h
  split at h
  · rename_i u hu
    simp only [qle, decide_eq_true_eq] at h
    obtain ⟨y, hy⟩ := q_some hN hu
    have h1 := q_ub hN hy hu
    have h2 := q_neg1 hy
    rw [q_neg2] at h2
    exact ⟨-y, h2, by omega⟩
  · cases h
abbrev qCut : Type := Nat × AS × qLin
/-- n0 entry variables, among them the longs lk; n1 variables and the rank at the start -/
def qcchk (D : qWd) (n0 : Nat) (lk : List Nat) (n1 : Nat) (L0 : Option qLin) (S : AS) (k : qCut) : Bool :=
  let θ := qfix lk n0 (qmatch D lk S k.2.1)
  qsub1 D n0 S k.2.1 θ && (match L0 with
    | some L => qdec S.1 n1 θ k.2.2 L
    | none => true)
/-- code by sixteens -/
abbrev qPg : Type := List (List (Option (Instr × Nat)))
def qat (T : qPg) (pc : Nat) : Option (Instr × Nat) := match T[pc / 16]? with
  | some r => (r[pc % 16]?).join
  | none => none
def qPgk (T : qPg) (cc : ByteArray) : Bool := (List.range (16 * T.length)).all (fun pc => match qat T pc with
  | some i => decide (decode cc pc = .ok i)
  | none => true)
theorem q_pgk {T : qPg} {cc : ByteArray} (h : qPgk T cc = true) {pc : Nat} {i : Instr × Nat} (hi : qat T pc = some i) : decode cc pc = .ok i := by
  unfold qPgk at h
  rw [List.all_eq_true] at h
  have hl : pc < 16 * T.length := by
    unfold qat at hi
    split at hi
    · rename_i r hr
      have := (List.getElem?_eq_some_iff.mp hr).1
      omega
    · cases hi
  have := h pc (List.mem_range.mpr hl)
  rw [hi] at this
  simpa using this
/-- a value is told apart into its numbers: local i, or the top of the stack (1000) -/
def qspA (S : AS) (i : Nat) : Option AV := if i = 1000 then S.2.1.2.head? else (S.2.1.1.find? (fun q => q.1 == i)).map (fun q => q.2)
def qsplit (S : AS) (i : Nat) : Option (List AS) := match qspA S i with
  | some a => (match qiv S.1 a with
    | some p => some ((List.range ((p.2 - p.1).toNat + 1)).flatMap (fun j : Nat => (qnarI S.1 a (p.1 + (j : Int), p.1 + (j : Int))).toList.map (fun N => (N, S.2))))
    | none => none)
  | none => none
theorem q_split {x : qCx} {S : AS} {i : Nat} {L : List AS} (hs : qsplit S i = some L) {pc : Nat} (h : ∀ T ∈ L, qG x T pc) : qG x S pc := by
  obtain ⟨γ, p, l, e, R, s, m, args, below, meth, c, Q, ⟨cc, nL', own⟩, A, D, adr, X, ms, w0, σe⟩ := x
  unfold qsplit at hs
  split at hs
  · rename_i a ha
    split at hs
    · rename_i pv hp
      cases hs
      intro σ ρ lv st ls ws H locs hw hl hS
      obtain ⟨h1, h2, h3⟩ := hS
      have hv : ∃ x, qvl σ a = some x := by
        have hr : ∃ v, qR σ ρ a v := by
          unfold qspA at ha
          split at ha
          · have hst := h2.2
            match hc : S.2.1.2, st, hst with
            | [], _, _ => rw [hc] at ha; cases ha
            | b :: bs, v :: st, hst =>
              rw [hc] at ha
              cases ha
              exact ⟨v, hst.1⟩
          · rw [Option.map_eq_some_iff] at ha
            obtain ⟨q, q1, rfl⟩ := ha
            obtain ⟨b, -, -, hb⟩ := F2.mem h2.1 (List.mem_of_find?_eq_some q1)
            exact ⟨b.2, hb⟩
        obtain ⟨v, hr⟩ := hr
        obtain ⟨z, rfl, -⟩ := q_iv h1 hr hp
        exact ⟨_, q_vl hr⟩
      obtain ⟨y, hy⟩ := hv
      have hin := q_ivV h1 hy hp
      simp only [qIn] at hin
      obtain ⟨N', e1, n1⟩ := q_narI h1 hy (iv := (pv.1 + (((y - pv.1).toNat : Nat) : Int), pv.1 + (((y - pv.1).toNat : Nat) : Int))) (by simp only [qIn]; omega)
      refine h (N', S.2) ?_ σ ρ lv st ls ws H locs hw hl ⟨n1, h2, h3⟩
      rw [List.mem_flatMap]
      exact ⟨(y - pv.1).toNat, List.mem_range.mpr (by omega), by rw [e1]; simp⟩
    · cases hs
  · cases hs

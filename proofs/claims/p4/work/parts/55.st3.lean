/-! increments, stack, branches, switches -/
def qs_inc (S : AS) (nL i : Nat) (n : Int) (pc : Nat) : Option qSu :=
  match S.2.1.1.findIdx? (fun q => q.1 == i && qint q.2) with
  | some k => (match S.2.1.1[k]? with
    | some q => if q.1 == i && qint q.2 && Nat.blt i nL && qle i32lo n && qle n i32hi then (match qbin 0 S.1 q.2 (1, 0, n) with
      | some r => some [((r.1, (qst1 S.2.1.1 i r.2, S.2.1.2), S.2.2), pc + 3)]
      | none => none) else none
    | none => none)
  | none => none
theorem q_ofInt {n : Int} (h1 : i32lo ≤ n) (h2 : n ≤ i32hi) : (Int32.ofInt n).toInt = n := by
  rw [Int32.toInt_ofInt]
  exact q_bmod h1 h2
theorem qs_incG {x : qCx} (hB : qB x) {S : AS} {nL i : Nat} {n : Int} {pc : Nat} (hnL : x.2.2.2.2.2.2.2.2.2.2.2.2.1.2.1 = nL) {L : qSu} (hs : qs_inc S nL i n pc = some L) (hdc : qdc x pc (.iinc i n, 3)) (h : qOk x L) : qG x S pc := by
  obtain ⟨γ, p, l, e, R, s, m, args, below, meth, c, Q, ⟨cc, nL', own⟩, A, D, adr, X, ms, w0, σe⟩ := x
  simp only at hnL
  subst hnL
  obtain ⟨N, ⟨loc, stk⟩, M⟩ := S
  unfold qs_inc at hs
  split at hs
  · rename_i k hk
    split at hs
    · rename_i q hq
      split at hs
      · rename_i hc
        simp only [Bool.and_eq_true, beq_iff_eq, Nat.blt_eq, qle, decide_eq_true_eq] at hc
        obtain ⟨⟨⟨⟨c1, c2⟩, c3⟩, c4⟩, c5⟩ := hc
        split at hs
        · rename_i r hr
          cases hs
          have hG := qOk1 h
          intro σ ρ lv st ls ws H locs hw hl hS
          obtain ⟨h1, h2, h3, h4, h5, h6⟩ := hS
          obtain ⟨⟨j, v⟩, g1, g2, g3⟩ := F2.idx h2.1 hq
          obtain ⟨z, rfl⟩ := q_int g3 c2
          have hv : (Int32.ofInt n).toInt = n := q_ofInt c4 c5
          obtain ⟨-, σ', s1, s2, s3⟩ := q_bin h1 0 (y := Int32.ofInt n) g3 (.inr (.inl ⟨rfl, _, rfl, hv⟩)) hr
          have hF := h2.mono s1 (fun _ _ h => h)
          simp only at g2
          subst g2
          subst c1
          refine lv_iinc hB.1 hB.2.1 hdc hl (k := k) g1 rfl c3 rfl (fun ls' hl' => ?_)
          exact hG σ' ρ _ st ls' ws H locs hw hl' ⟨s2, ⟨q_st1 hF.1 s3, hF.2⟩, h3.monoσ s1, h4, h5, fun v x hv => s1 v x (h6 v x hv)⟩
        · cases hs
      · cases hs
    · cases hs
  · cases hs
def qs_dup (S : AS) (pc : Nat) : Option qSu :=
  match S.2.1.2 with
  | a :: stk => if a.1 == 2 then none else some [((S.1, (S.2.1.1, a :: a :: stk), S.2.2), pc + 1)]
  | _ => none
theorem q_cat1 {σ : qσ} {ρ : qρ} {a : AV} {v : Value} (hr : qR σ ρ a v) (h : ¬ (a.1 == 2) = true) : v.category = 1 := by
  rw [hr.cat.2, if_neg (by simpa using h)]
theorem qs_dupG {x : qCx} (hB : qB x) {S : AS} {pc : Nat} {L : qSu} (hs : qs_dup S pc = some L) (hdc : qdc x pc (.dup, 1)) (h : qOk x L) : qG x S pc := by
  obtain ⟨γ, p, l, e, R, s, m, args, below, meth, c, Q, ⟨cc, nL', own⟩, A, D, adr, X, ms, w0, σe⟩ := x
  obtain ⟨N, ⟨loc, stk⟩, M⟩ := S
  unfold qs_dup at hs
  split at hs
  · rename_i a stk' heq
    simp only at heq
    subst heq
    split at hs
    · cases hs
    · rename_i hc
      cases hs
      have hG := qOk1 h
      intro σ ρ lv st ls ws H locs hw hl hS
      match st, hS.2.1.2 with
      | v :: st, ⟨hr, hst⟩ =>
      exact lv_dup hB.1 hB.2.1 hdc (q_cat1 hr hc) (hG σ ρ lv _ ls ws H locs hw hl ⟨hS.1, ⟨hS.2.1.1, hr, hr, hst⟩, hS.2.2⟩)
  · cases hs
def qs_dup2 (S : AS) (pc : Nat) : Option qSu :=
  match S.2.1.2 with
  | a :: b :: stk => if a.1 == 2 || b.1 == 2 then none else some [((S.1, (S.2.1.1, a :: b :: a :: b :: stk), S.2.2), pc + 1)]
  | _ => none
theorem qs_dup2G {x : qCx} (hB : qB x) {S : AS} {pc : Nat} {L : qSu} (hs : qs_dup2 S pc = some L) (hdc : qdc x pc (.dup2, 1)) (h : qOk x L) : qG x S pc := by
  obtain ⟨γ, p, l, e, R, s, m, args, below, meth, c, Q, ⟨cc, nL', own⟩, A, D, adr, X, ms, w0, σe⟩ := x
  obtain ⟨N, ⟨loc, stk⟩, M⟩ := S
  unfold qs_dup2 at hs
  split at hs
  · rename_i a b stk' heq
    simp only at heq
    subst heq
    split at hs
    · cases hs
    · rename_i hc
      simp only [Bool.or_eq_true, not_or] at hc
      cases hs
      have hG := qOk1 h
      intro σ ρ lv st ls ws H locs hw hl hS
      match st, hS.2.1.2 with
      | v :: w :: st, ⟨hr, hr2, hst⟩ =>
      exact lv_dup2_11 hB.1 hB.2.1 hdc (q_cat1 hr hc.1) (q_cat1 hr2 hc.2) (hG σ ρ lv _ ls ws H locs hw hl ⟨hS.1, ⟨hS.2.1.1, hr, hr2, hr, hr2, hst⟩, hS.2.2⟩)
  · cases hs
def qs_pop (S : AS) (pc : Nat) : Option qSu :=
  match S.2.1.2 with
  | a :: stk => if a.1 == 2 then none else some [((S.1, (S.2.1.1, stk), S.2.2), pc + 1)]
  | _ => none
theorem qs_popG {x : qCx} (hB : qB x) {S : AS} {pc : Nat} {L : qSu} (hs : qs_pop S pc = some L) (hdc : qdc x pc (.pop, 1)) (h : qOk x L) : qG x S pc := by
  obtain ⟨γ, p, l, e, R, s, m, args, below, meth, c, Q, ⟨cc, nL', own⟩, A, D, adr, X, ms, w0, σe⟩ := x
  obtain ⟨N, ⟨loc, stk⟩, M⟩ := S
  unfold qs_pop at hs
  split at hs
  · rename_i a stk' heq
    simp only at heq
    subst heq
    split at hs
    · cases hs
    · rename_i hc
      cases hs
      have hG := qOk1 h
      intro σ ρ lv st ls ws H locs hw hl hS
      match st, hS.2.1.2 with
      | v :: st, ⟨hr, hst⟩ =>
      exact lv_pop hB.1 hB.2.1 hdc (q_cat1 hr hc) (hG σ ρ lv _ ls ws H locs hw hl ⟨hS.1, ⟨hS.2.1.1, hst⟩, hS.2.2⟩)
  · cases hs
def qtg (pc : Nat) (off : Int) : Option Nat := if qle 0 ((pc : Int) + off) then some ((pc : Int) + off).toNat else none
theorem q_tg {pc t : Nat} {off : Int} (h : qtg pc off = some t) : (pc : Int) + off = (t : Int) := by
  unfold qtg at h
  split at h
  · rename_i hc
    simp only [qle, decide_eq_true_eq] at hc
    cases h
    omega
  · cases h
def qs_goto (S : AS) (off : Int) (pc : Nat) : Option qSu := (qtg pc off).map (fun t => [(S, t)])
theorem qs_gotoG {x : qCx} (hB : qB x) {S : AS} {off : Int} {pc : Nat} {L : qSu} (hs : qs_goto S off pc = some L) (hdc : qdc x pc (.goto off, 3)) (h : qOk x L) : qG x S pc := by
  obtain ⟨γ, p, l, e, R, s, m, args, below, meth, c, Q, ⟨cc, nL', own⟩, A, D, adr, X, ms, w0, σe⟩ := x
  unfold qs_goto at hs
  simp only [Option.map_eq_some_iff] at hs
  obtain ⟨t, ht, rfl⟩ := hs
  have hG := qOk1 h
  intro σ ρ lv st ls ws H locs hw hl hS
  exact lv_goto hB.1 hB.2.1 hdc (q_tg ht) (hG σ ρ lv st ls ws H locs hw hl hS)
/-- what a comparison tells -/
def qcnd (k : Nat) (x y : Int) : Prop :=
  match k with
  | 0 => x = y
  | 1 => ¬ x = y
  | 2 => x < y
  | 3 => ¬ x < y
  | 4 => y < x
  | _ => ¬ y < x
def qngt (k : Nat) : Nat :=
  match k with
  | 0 => 1
  | 1 => 0
  | 2 => 3
  | 3 => 2
  | 4 => 5
  | _ => 4
def qnar2 (N : qN) (a : AV) (p : qIv) (b : AV) (q : qIv) : Option qN :=
  (qnar N a p).bind (fun N1 => if (qiv N1 b).isSome then qnar N1 b q else some N1)
theorem q_nar2 {D : qWd} {σ : qσ} {ρ : qρ} {N : qN} (h : qsN D σ N) {a b : AV} {x y : Int32} (ha : qR σ ρ a (.int x)) (hb : qR σ ρ b (.int y)) {p q : qIv} (hp : qIn p x.toInt) (hq : qIn q y.toInt) (hd : (qiv N a).isSome = true) : ∃ N', qnar2 N a p b q = some N' ∧ qsN D σ N' := by
  obtain ⟨N1, e1, h1⟩ := q_nar h ha hp hd
  unfold qnar2
  rw [e1]
  simp only [Option.bind_some]
  split
  · rename_i h9
    exact q_nar h1 hb hq h9
  · exact ⟨N1, rfl, h1⟩
def qref (k : Nat) (N : qN) (a b : AV) : Option qN :=
  match qiv N a, qiv N b with
  | some p, some q => (match k with
    | 0 => qnar2 N a q b p
    | 1 => if q.1 = q.2 ∧ p.1 = q.1 then qnar2 N a (p.1 + 1, p.2) b q else if q.1 = q.2 ∧ p.2 = q.1 then qnar2 N a (p.1, p.2 - 1) b q
           else if p.1 = p.2 ∧ q.1 = p.1 then qnar2 N a p b (q.1 + 1, q.2) else if p.1 = p.2 ∧ q.2 = p.1 then qnar2 N a p b (q.1, q.2 - 1) else some N
    | 2 => qnar2 N a (p.1, q.2 - 1) b (p.1 + 1, q.2)
    | 3 => qnar2 N a (q.1, p.2) b (q.1, p.2)
    | 4 => qnar2 N a (q.1 + 1, p.2) b (q.1, p.2 - 1)
    | _ => qnar2 N a (p.1, q.2) b (p.1, q.2))
  | _, _ => some N
theorem q_ref {D : qWd} {σ : qσ} {ρ : qρ} {N : qN} (h : qsN D σ N) (k : Nat) {a b : AV} {x y : Int32} (ha : qR σ ρ a (.int x)) (hb : qR σ ρ b (.int y)) (hc : qcnd k x.toInt y.toInt) : ∃ N', qref k N a b = some N' ∧ qsN D σ N' := by
  unfold qref
  split
  · rename_i p q hp hq
    have hd : (qiv N a).isSome = true := by rw [hp]; rfl
    obtain ⟨x', e1, i1⟩ := q_iv h ha hp
    obtain ⟨y', e2, i2⟩ := q_iv h hb hq
    cases e1; cases e2
    have i1' := i1
    have i2' := i2
    simp only [qIn] at i1 i2
    split
    · exact q_nar2 h ha hb (by simp only [qcnd] at hc; rw [hc]; exact i2') (by simp only [qcnd] at hc; rw [← hc]; exact i1') hd
    · simp only [qcnd] at hc
      split
      · exact q_nar2 h ha hb (by simp only [qIn]; omega) i2' hd
      · split
        · exact q_nar2 h ha hb (by simp only [qIn]; omega) i2' hd
        · split
          · exact q_nar2 h ha hb i1' (by simp only [qIn]; omega) hd
          · split
            · exact q_nar2 h ha hb i1' (by simp only [qIn]; omega) hd
            · exact ⟨N, rfl, h⟩
    · simp only [qcnd] at hc
      exact q_nar2 h ha hb (by simp only [qIn]; omega) (by simp only [qIn]; omega) hd
    · simp only [qcnd] at hc
      exact q_nar2 h ha hb (by simp only [qIn]; omega) (by simp only [qIn]; omega) hd
    · simp only [qcnd] at hc
      exact q_nar2 h ha hb (by simp only [qIn]; omega) (by simp only [qIn]; omega) hd
    · have hc' : ¬ y.toInt < x.toInt := by
        unfold qcnd at hc
        split at hc <;> first | omega | exact hc | (exfalso; simp_all; done)
      exact q_nar2 h ha hb (by simp only [qIn]; omega) (by simp only [qIn]; omega) hd
  · exact ⟨N, rfl, h⟩
def qrl1 (N : qN) (a b : Nat) (d : Int) : qN := (N.1, (a, b, d) :: N.2.1, N.2.2)
theorem q_rl1 {D : qWd} {σ : qσ} {N : qN} (h : qsN D σ N) {a b : Nat} {d x y : Int} (ha : σ a = some x) (hb : σ b = some y) (hd : y + d ≤ x) : qsN D σ (qrl1 N a b d) := by
  refine ⟨h.1, h.2.1, fun a' b' d' hm => ?_, h.2.2.2⟩
  rcases List.mem_cons.mp hm with e | hm
  · cases e
    exact ⟨x, y, ha, hb, hd⟩
  · exact h.2.2.1 a' b' d' hm
/-- what a comparison of two numbers tells of their difference -/
def qrl (k : Nat) (N : qN) (a b : AV) : qN :=
  if a.1 == 0 && b.1 == 0 then (match k with
    | 0 => qrl1 (qrl1 N a.2.1 b.2.1 (b.2.2 - a.2.2)) b.2.1 a.2.1 (a.2.2 - b.2.2)
    | 1 => N
    | 2 => qrl1 N b.2.1 a.2.1 (a.2.2 + 1 - b.2.2)
    | 3 => qrl1 N a.2.1 b.2.1 (b.2.2 - a.2.2)
    | 4 => qrl1 N a.2.1 b.2.1 (b.2.2 + 1 - a.2.2)
    | _ => qrl1 N b.2.1 a.2.1 (a.2.2 - b.2.2)) else N
theorem q_rl {D : qWd} {σ : qσ} {ρ : qρ} {N : qN} (h : qsN D σ N) (k : Nat) {a b : AV} {x y : Int32} (ha : qR σ ρ a (.int x)) (hb : qR σ ρ b (.int y)) (hc : qcnd k x.toInt y.toInt) : qsN D σ (qrl k N a b) := by
  unfold qrl
  split
  · rename_i h0
    simp only [Bool.and_eq_true, beq_iff_eq] at h0
    obtain ⟨u, hu, ex⟩ := q_v0 ha h0.1
    obtain ⟨w, hw, ey⟩ := q_v0 hb h0.2
    split
    · simp only [qcnd] at hc
      exact q_rl1 (q_rl1 h hu hw (by omega)) hw hu (by omega)
    · exact h
    · simp only [qcnd] at hc
      exact q_rl1 h hw hu (by omega)
    · simp only [qcnd] at hc
      exact q_rl1 h hu hw (by omega)
    · simp only [qcnd] at hc
      exact q_rl1 h hu hw (by omega)
    · have hc' : ¬ y.toInt < x.toInt := by
        unfold qcnd at hc
        split at hc <;> first | omega | exact hc | (exfalso; simp_all; done)
      exact q_rl1 h hw hu (by omega)
  · exact h
/-- what two unlike numbers are, where their order is known -/
def qkn (N : qN) (k : Nat) (a b : AV) : Nat :=
  if k == 1 && a.1 == 0 && b.1 == 0 then (if N.2.1.any (fun r => r.1 == b.2.1 && r.2.1 == a.2.1 && qle (a.2.2) (r.2.2 + b.2.2)) then 2
    else if N.2.1.any (fun r => r.1 == a.2.1 && r.2.1 == b.2.1 && qle (b.2.2) (r.2.2 + a.2.2)) then 4 else 1) else k
theorem q_kn {D : qWd} {σ : qσ} {ρ : qρ} {N : qN} (h : qsN D σ N) (k : Nat) {a b : AV} {x y : Int32} (ha : qR σ ρ a (.int x)) (hb : qR σ ρ b (.int y)) (hc : qcnd k x.toInt y.toInt) : qcnd (qkn N k a b) x.toInt y.toInt := by
  unfold qkn
  split
  · rename_i h0
    simp only [Bool.and_eq_true, beq_iff_eq] at h0
    obtain ⟨⟨k1, a0⟩, b0⟩ := h0
    subst k1
    obtain ⟨u, hu, ex⟩ := q_v0 ha a0
    obtain ⟨w, hw, ey⟩ := q_v0 hb b0
    simp only [qcnd] at hc
    split
    · rename_i hr
      rw [List.any_eq_true] at hr
      obtain ⟨r, r1, r2⟩ := hr
      simp only [Bool.and_eq_true, beq_iff_eq, qle, decide_eq_true_eq] at r2
      obtain ⟨X, Y, g1, g2, g3⟩ := h.2.2.1 r.1 r.2.1 r.2.2 r1
      rw [r2.1.1, hw] at g1
      rw [r2.1.2, hu] at g2
      cases g1; cases g2
      show x.toInt < y.toInt
      omega
    · split
      · rename_i hr
        rw [List.any_eq_true] at hr
        obtain ⟨r, r1, r2⟩ := hr
        simp only [Bool.and_eq_true, beq_iff_eq, qle, decide_eq_true_eq] at r2
        obtain ⟨X, Y, g1, g2, g3⟩ := h.2.2.1 r.1 r.2.1 r.2.2 r1
        rw [r2.1.1, hu] at g1
        rw [r2.1.2, hw] at g2
        cases g1; cases g2
        show y.toInt < x.toInt
        omega
      · exact hc
  · exact hc
def qs_brA (k : Nat) (S : AS) (a b : AV) (stk : List AV) (t pc : Nat) : qSu :=
  ((qref (qkn S.1 k a b) S.1 a b).toList.map (fun N => ((qrl (qkn S.1 k a b) N a b, (S.2.1.1, stk), S.2.2), t))) ++ ((qref (qkn S.1 (qngt k) a b) S.1 a b).toList.map (fun N => ((qrl (qkn S.1 (qngt k) a b) N a b, (S.2.1.1, stk), S.2.2), pc + 3)))
def qs_icmp (k : Nat) (S : AS) (off : Int) (pc : Nat) : Option qSu :=
  match S.2.1.2 with
  | b :: a :: stk => if qint a && qint b then (qtg pc off).map (fun t => qs_brA k S a b stk t pc) else none
  | _ => none
def qs_if (k : Nat) (S : AS) (off : Int) (pc : Nat) : Option qSu :=
  match S.2.1.2 with
  | a :: stk => if qint a then (qtg pc off).map (fun t => qs_brA k S a (1, 0, 0) stk t pc) else none
  | _ => none
theorem q_brA {x : qCx} {k : Nat} {S : AS} {a b : AV} {stk : List AV} {t pc : Nat} (h : qOk x (qs_brA k S a b stk t pc)) {σ : qσ} {ρ : qρ} {lv : List (Nat × Value)} {st st0 : List Value} {ls : Array Slot} {ws : va_W} {H : Heap} {locs : List Loc} (hw : qkW x ws H locs) (hl : qlv x ls lv)
    (hS : qS x S σ ρ lv st0 ws) (hst : F2 (qR σ ρ) stk st) {y z : Int32} (ha : qR σ ρ a (.int y)) (hb : qR σ ρ b (.int z)) : (qcnd k y.toInt z.toInt → qWp x H locs t ls st) ∧ (qcnd (qngt k) y.toInt z.toInt → qWp x H locs (pc + 3) ls st) := by
  obtain ⟨γ, p, l, e, R, s, m, args, below, meth, c, Q, ⟨cc, nL', own⟩, A, D, adr, X, ms, w0, σe⟩ := x
  constructor
  · intro hc
    have hc := q_kn hS.1 k ha hb hc
    obtain ⟨N', e1, h1⟩ := q_ref hS.1 (qkn S.1 k a b) ha hb hc
    have hG := h ((qrl (qkn S.1 k a b) N' a b, (S.2.1.1, stk), S.2.2), t) (by unfold qs_brA; rw [e1]; simp)
    exact hG σ ρ lv st ls ws H locs hw hl ⟨q_rl h1 (qkn S.1 k a b) ha hb hc, ⟨hS.2.1.1, hst⟩, hS.2.2⟩
  · intro hc
    have hc := q_kn hS.1 (qngt k) ha hb hc
    obtain ⟨N', e1, h1⟩ := q_ref hS.1 (qkn S.1 (qngt k) a b) ha hb hc
    have hG := h ((qrl (qkn S.1 (qngt k) a b) N' a b, (S.2.1.1, stk), S.2.2), pc + 3) (by unfold qs_brA; rw [e1]; simp)
    exact hG σ ρ lv st ls ws H locs hw hl ⟨q_rl h1 (qkn S.1 (qngt k) a b) ha hb hc, ⟨hS.2.1.1, hst⟩, hS.2.2⟩
theorem qs_icmpG {x : qCx} {k : Nat} {S : AS} {off : Int} {pc : Nat} {L : qSu} (hs : qs_icmp k S off pc = some L)
    (hd : ∀ (H : Heap) (locs : List Loc) (ls : Array Slot) (st : List Value) (y z : Int32) (t : Nat), (pc : Int) + off = (t : Int) → (qcnd k y.toInt z.toInt → qWp x H locs t ls st) → (qcnd (qngt k) y.toInt z.toInt → qWp x H locs (pc + 3) ls st) → qWp x H locs pc ls (.int z :: .int y :: st)) (h : qOk x L) : qG x S pc := by
  obtain ⟨N, ⟨loc, stk⟩, M⟩ := S
  unfold qs_icmp at hs
  split at hs
  · rename_i b a stk' heq
    simp only at heq
    subst heq
    split at hs
    · rename_i hc
      simp only [Bool.and_eq_true] at hc
      simp only [Option.map_eq_some_iff] at hs
      obtain ⟨t, ht, rfl⟩ := hs
      intro σ ρ lv st ls ws H locs hw hl hS
      have hF : F2 (qR σ ρ) (b :: a :: stk') st := by
        obtain ⟨γ, p, l, e, R, s, m, args, below, meth, c, Q, ⟨cc, nL', own⟩, A, D, adr, X, ms, w0, σe⟩ := x
        exact hS.2.1.2
      match st, hF with
      | vb :: va :: st, ⟨hrb, hra, hst⟩ =>
      obtain ⟨y, rfl⟩ := q_int hra hc.1
      obtain ⟨z, rfl⟩ := q_int hrb hc.2
      obtain ⟨k1, k2⟩ := q_brA h hw hl hS hst hra hrb
      exact hd H locs ls st y z t (q_tg ht) k1 k2
    · cases hs
  · cases hs
theorem qs_ifG {x : qCx} {k : Nat} {S : AS} {off : Int} {pc : Nat} {L : qSu} (hs : qs_if k S off pc = some L)
    (hd : ∀ (H : Heap) (locs : List Loc) (ls : Array Slot) (st : List Value) (y : Int32) (t : Nat), (pc : Int) + off = (t : Int) → (qcnd k y.toInt 0 → qWp x H locs t ls st) → (qcnd (qngt k) y.toInt 0 → qWp x H locs (pc + 3) ls st) → qWp x H locs pc ls (.int y :: st)) (h : qOk x L) : qG x S pc := by
  obtain ⟨N, ⟨loc, stk⟩, M⟩ := S
  unfold qs_if at hs
  split at hs
  · rename_i a stk' heq
    simp only at heq
    subst heq
    split at hs
    · rename_i hc
      simp only [Option.map_eq_some_iff] at hs
      obtain ⟨t, ht, rfl⟩ := hs
      intro σ ρ lv st ls ws H locs hw hl hS
      have hF : F2 (qR σ ρ) (a :: stk') st := by
        obtain ⟨γ, p, l, e, R, s, m, args, below, meth, c, Q, ⟨cc, nL', own⟩, A, D, adr, X, ms, w0, σe⟩ := x
        exact hS.2.1.2
      match st, hF with
      | va :: st, ⟨hra, hst⟩ =>
      obtain ⟨y, rfl⟩ := q_int hra hc
      obtain ⟨k1, k2⟩ := q_brA (b := (1, 0, 0)) (z := 0) h hw hl hS hst hra (.inr (.inl ⟨rfl, 0, rfl, by simp⟩))
      exact hd H locs ls st y t (q_tg ht) (by simpa using k1) (by simpa using k2)
    · cases hs
  · cases hs
def qs_acmp (S : AS) (off : Int) (pc : Nat) : Option qSu :=
  match S.2.1.2 with
  | b :: a :: stk => if a.1 == 3 && b.1 == 3 then (qtg pc off).map (fun t => [((S.1, (S.2.1.1, stk), S.2.2), t), ((S.1, (S.2.1.1, stk), S.2.2), pc + 3)]) else none
  | _ => none
theorem q_rfv {σ : qσ} {ρ : qρ} {a : AV} {v : Value} (hr : qR σ ρ a v) (h : a.1 = 3) : ∃ n : Nat, v = .ref n ∧ ρ a.2.1 = some n := by
  rcases hr with ⟨t, _⟩ | ⟨t, _⟩ | ⟨t, _⟩ | ⟨_, z, e, hz⟩
  · rw [h] at t; cases t
  · rw [h] at t; cases t
  · rw [h] at t; cases t
  · exact ⟨z, e, hz⟩
theorem qs_acmpG {x : qCx} (hB : qB x) {S : AS} {off : Int} {pc : Nat} {L : qSu} (hs : qs_acmp S off pc = some L) (hdc : qdc x pc (.if_acmp .eq off, 3) ∨ qdc x pc (.if_acmp .ne off, 3)) (h : qOk x L) : qG x S pc := by
  obtain ⟨γ, p, l, e, R, s, m, args, below, meth, c, Q, ⟨cc, nL', own⟩, A, D, adr, X, ms, w0, σe⟩ := x
  obtain ⟨N, ⟨loc, stk⟩, M⟩ := S
  unfold qs_acmp at hs
  split at hs
  · rename_i b a stk' heq
    simp only at heq
    subst heq
    split at hs
    · rename_i hc
      simp only [Bool.and_eq_true, beq_iff_eq] at hc
      simp only [Option.map_eq_some_iff] at hs
      obtain ⟨t, ht, rfl⟩ := hs
      intro σ ρ lv st ls ws H locs hw hl hS
      match st, hS.2.1.2 with
      | vb :: va :: st, ⟨hrb, hra, hst⟩ =>
      obtain ⟨y, rfl, -⟩ := q_rfv hra hc.1
      obtain ⟨z, rfl, -⟩ := q_rfv hrb hc.2
      have k1 := h _ List.mem_cons_self σ ρ lv st ls ws H locs hw hl ⟨hS.1, ⟨hS.2.1.1, hst⟩, hS.2.2⟩
      have k2 := h _ (List.mem_cons_of_mem _ List.mem_cons_self) σ ρ lv st ls ws H locs hw hl ⟨hS.1, ⟨hS.2.1.1, hst⟩, hS.2.2⟩
      rcases hdc with hdc | hdc
      · exact lv_acmp_eq (rx := some y) (ry := some z) hB.1 hB.2.1 hdc (q_tg ht) (fun _ => k1) (fun _ => k2)
      · exact lv_acmp_ne (rx := some y) (ry := some z) hB.1 hB.2.1 hdc (q_tg ht) (fun _ => k1) (fun _ => k2)
    · cases hs
  · cases hs

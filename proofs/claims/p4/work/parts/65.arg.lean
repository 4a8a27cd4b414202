/-! arguments, facts, narrowing by numbers -/
theorem F2.append {α β : Type} {R : α → β → Prop} : ∀ {l : List α} {l' : List β} {k : List α} {k' : List β}, F2 R l l' → F2 R k k' → F2 R (l ++ k) (l' ++ k')
  | [], [], _, _, _, h => h
  | _ :: _, _ :: _, _, _, ⟨h1, h2⟩, h => ⟨h1, F2.append h2 h⟩
theorem F2.reverse {α β : Type} {R : α → β → Prop} : ∀ {l : List α} {l' : List β}, F2 R l l' → F2 R l.reverse l'.reverse
  | [], [], _ => trivial
  | _ :: _, _ :: _, ⟨h1, h2⟩ => by
    rw [List.reverse_cons, List.reverse_cons]
    exact F2.append (F2.reverse h2) ⟨h1, trivial⟩
theorem F2.take {α β : Type} {R : α → β → Prop} : ∀ {l : List α} {l' : List β} (n : Nat), F2 R l l' → F2 R (l.take n) (l'.take n)
  | [], [], n, _ => by simp [F2]
  | _ :: _, _ :: _, 0, _ => by simp [F2]
  | _ :: _, _ :: _, n + 1, ⟨h1, h2⟩ => by
    rw [List.take_succ_cons, List.take_succ_cons]
    exact ⟨h1, F2.take n h2⟩
theorem F2.drop {α β : Type} {R : α → β → Prop} : ∀ {l : List α} {l' : List β} (n : Nat), F2 R l l' → F2 R (l.drop n) (l'.drop n)
  | [], [], n, _ => by simp [F2]
  | _ :: _, _ :: _, 0, h => h
  | _ :: _, _ :: _, n + 1, ⟨_, h2⟩ => by
    rw [List.drop_succ_cons, List.drop_succ_cons]
    exact F2.drop n h2
theorem qle1.trans {σ σ' σ'' : qσ} (h : qle1 σ σ') (h' : qle1 σ' σ'') : qle1 σ σ'' := fun v x hv => h' v x (h v x hv)
theorem qle2.trans {σ σ' σ'' : qρ} (h : qle2 σ σ') (h' : qle2 σ' σ'') : qle2 σ σ'' := fun v x hv => h' v x (h v x hv)
theorem qle1.refl (σ : qσ) : qle1 σ σ := fun _ _ h => h
theorem qle2.refl (σ : qρ) : qle2 σ σ := fun _ _ h => h
/-- new values of given types -/
def qarg (D : qWd) (N : qN) (M : qM) (t : qTy) : Option (qN × qM × AV) :=
  if t.1 = 0 then some ((qfr N t.2).1, M, (qfr N t.2).2)
  else if t.1 = 1 then some ((qfrL N t.2).1, M, (qfrL N t.2).2)
  else if t.1 = 2 then (if t.2.1.toNat < D.2.2 then some (N, M, (3, t.2.1.toNat, 0)) else some (N, (M.1 ++ [t.2.1.toNat], M.2), (3, D.2.2 + M.1.length, 0)))
  else none
def qargs (D : qWd) : qN → qM → List qTy → Option (qN × qM × List AV)
  | N, M, [] => some (N, M, [])
  | N, M, t :: ts => (match qarg D N M t with
    | some z => (match qargs D z.1 z.2.1 ts with
      | some y => some (y.1, y.2.1, z.2.2 :: y.2.2)
      | none => none)
    | none => none)
section QAR
variable {D : qWd} {γ : kΓ} {adr : List Nat} {ws : va_W}
theorem q_arg (hD : qD D) {σ : qσ} {ρ : qρ} {N : qN} {M : qM} (hN : qsN D σ N) (hH : qsM D γ adr σ ρ M ws) {t : qTy} {v : Value} (ht : qvT D γ adr t v) {z : qN × qM × AV} (hz : qarg D N M t = some z) : ∃ (σ' : qσ) (ρ' : qρ), qle1 σ σ' ∧ qle2 ρ ρ' ∧ qsN D σ' z.1 ∧ qsM D γ adr σ' ρ' z.2.1 ws ∧ qR σ' ρ' z.2.2 v := by
  unfold qarg at hz
  split at hz
  · rename_i h0
    cases hz
    obtain ⟨x, rfl, hx⟩ := ht.1 h0
    obtain ⟨σ', s1, s2, s3⟩ := q_fr (ρ := ρ) hN hx
    exact ⟨σ', ρ, s1, qle2.refl _, s2, hH.monoσ s1, s3⟩
  · split at hz
    · rename_i h0
      cases hz
      obtain ⟨x, rfl, hx⟩ := ht.2.1 h0
      obtain ⟨σ', s1, s2, s3⟩ := q_frL (ρ := ρ) hN hx
      exact ⟨σ', ρ, s1, qle2.refl _, s2, hH.monoσ s1, s3⟩
    · split at hz
      · rename_i h0
        obtain ⟨a, rfl, ha⟩ := ht.2.2 h0
        split at hz
        · rename_i hlt
          cases hz
          exact ⟨σ, ρ, qle1.refl _, qle2.refl _, hN, hH, .inr (.inr (.inr ⟨rfl, a, rfl, q_sing hD hH hlt ha⟩))⟩
        · cases hz
          obtain ⟨ρ', s1, s2, s3⟩ := q_frR hH ha
          exact ⟨σ, ρ', qle1.refl _, s1, hN, s2, .inr (.inr (.inr ⟨rfl, a, rfl, s3⟩))⟩
      · cases hz
theorem q_args (hD : qD D) : ∀ {ts : List qTy} {av : List Value} {σ : qσ} {ρ : qρ} {N : qN} {M : qM}, qsN D σ N → qsM D γ adr σ ρ M ws → F2 (qvT D γ adr) ts av → ∀ {z : qN × qM × List AV}, qargs D N M ts = some z → ∃ (σ' : qσ) (ρ' : qρ), qle1 σ σ' ∧ qle2 ρ ρ' ∧ qsN D σ' z.1 ∧ qsM D γ adr σ' ρ' z.2.1 ws ∧ F2 (qR σ' ρ') z.2.2 av
  | [], [], σ, ρ, N, M, hN, hH, _, z, hz => by
    cases hz
    exact ⟨σ, ρ, qle1.refl _, qle2.refl _, hN, hH, trivial⟩
  | t :: ts, v :: av, σ, ρ, N, M, hN, hH, ⟨ht, hts⟩, z, hz => by
    unfold qargs at hz
    split at hz
    · rename_i z1 hz1
      obtain ⟨σ1, ρ1, s1, r1, n1, m1, e1⟩ := q_arg hD hN hH ht hz1
      split at hz
      · rename_i y hy
        cases hz
        obtain ⟨σ2, ρ2, s2, r2, n2, m2, e2⟩ := q_args hD n1 m1 hts hy
        exact ⟨σ2, ρ2, s1.trans s2, r1.trans r2, n2, m2, e1.mono s2 r2, e2⟩
      · cases hz
    · cases hz
end QAR
/-- narrower, by numbers -/
def qnarV (N : qN) (v : Nat) (iv : qIv) : Option qN := match N.1[v]? with
  | some p => if qmax p.1 iv.1 ≤ qmin p.2 iv.2 then some (N.1.set v (qmax p.1 iv.1, qmin p.2 iv.2), N.2) else none
  | none => some N
theorem q_narV {D : qWd} {σ : qσ} {N : qN} (h : qsN D σ N) {v : Nat} {y : Int} (hs : σ v = some y) {iv : qIv} (hy : qIn iv y) : ∃ N', qnarV N v iv = some N' ∧ qsN D σ N' := by
  unfold qnarV
  split
  · rename_i p hp
    obtain ⟨z, h3, h4⟩ := h.2.1 _ _ hp
    rw [hs] at h3
    cases h3
    have hlo : qmax p.1 iv.1 ≤ y ∧ y ≤ qmin p.2 iv.2 := by
      simp only [qIn, qmax, qmin] at *
      constructor <;> split <;> omega
    rw [if_pos (Int.le_trans hlo.1 hlo.2)]
    refine ⟨_, rfl, fun v hv => h.1 v (by simpa using hv), fun w iv' hv => ?_, h.2.2.1, h.2.2.2⟩
    by_cases e9 : v = w
    · subst e9
      rw [List.getElem?_set_self (List.getElem?_eq_some_iff.mp hp).1] at hv
      cases hv
      exact ⟨y, hs, hlo⟩
    · rw [List.getElem?_set_ne e9] at hv
      exact h.2.1 w iv' hv
  · exact ⟨N, rfl, h⟩
def qnarI (N : qN) (a : AV) (iv : qIv) : Option qN :=
  if a.1 = 0 then qnarV N a.2.1 (iv.1 - a.2.2, iv.2 - a.2.2) else if a.1 = 1 then (if iv.1 ≤ a.2.2 ∧ a.2.2 ≤ iv.2 then some N else none) else some N
theorem q_narI {D : qWd} {σ : qσ} {N : qN} (h : qsN D σ N) {a : AV} {x : Int} (hv : qvl σ a = some x) {iv : qIv} (hx : qIn iv x) : ∃ N', qnarI N a iv = some N' ∧ qsN D σ N' := by
  unfold qnarI
  unfold qvl at hv
  by_cases h0 : a.1 = 0
  · rw [if_pos h0] at hv ⊢
    rw [Option.map_eq_some_iff] at hv
    obtain ⟨y, hy, rfl⟩ := hv
    simp only [qIn] at hx
    exact q_narV h hy (by simp only [qIn]; omega)
  · rw [if_neg h0] at hv ⊢
    by_cases h1 : a.1 = 1
    · rw [if_pos h1] at hv ⊢
      cases hv
      simp only [qIn] at hx
      rw [if_pos hx]
      exact ⟨N, rfl, h⟩
    · rw [if_neg h1] at hv; cases hv
/-- a difference is learned: a is at least b + d -/
def qrelI (N : qN) (a b : AV) (d : Int) : Option qN :=
  if qge 2 N b a (1 - d) then none else
  (match qiv N b with
    | some p => (qnarI N a (p.1 + d, i32hi))
    | none => some N).bind (fun N1 => (match qiv N1 a with
      | some p => (qnarI N1 b (i32lo, p.2 - d))
      | none => some N1).bind (fun N2 => some (if a.1 == 0 && b.1 == 0 then qrl1 N2 a.2.1 b.2.1 (b.2.2 + d - a.2.2) else N2)))
theorem q_relI {D : qWd} {σ : qσ} {N : qN} (h : qsN D σ N) {a b : AV} {x y d : Int} (ha : qvl σ a = some x) (hb : qvl σ b = some y) (hx : i32lo ≤ x ∧ x ≤ i32hi) (hy : i32lo ≤ y ∧ y ≤ i32hi) (hd : y + d ≤ x) : ∃ N', qrelI N a b d = some N' ∧ qsN D σ N' := by
  unfold qrelI
  have h0 : ¬ qge 2 N b a (1 - d) = true := fun hg => by
    have := q_ge h 2 hb ha hg
    omega
  rw [if_neg h0]
  have s1 : ∃ N1, (match qiv N b with
    | some p => (qnarI N a (p.1 + d, i32hi))
    | none => some N) = some N1 ∧ qsN D σ N1 := by
    split
    · rename_i p hp
      have := q_ivV h hb hp
      exact q_narI h ha ⟨by have := this.1; show p.1 + d ≤ x; omega, hx.2⟩
    · exact ⟨N, rfl, h⟩
  obtain ⟨N1, e1, h1⟩ := s1
  rw [e1]
  simp only [Option.bind_some]
  have s2 : ∃ N2, (match qiv N1 a with
      | some p => (qnarI N1 b (i32lo, p.2 - d))
      | none => some N1) = some N2 ∧ qsN D σ N2 := by
    split
    · rename_i p hp
      have := q_ivV h1 ha hp
      exact q_narI h1 hb ⟨hy.1, by have := this.2; show y ≤ p.2 - d; omega⟩
    · exact ⟨N1, rfl, h1⟩
  obtain ⟨N2, e2, h2⟩ := s2
  rw [e2]
  simp only [Option.bind_some]
  refine ⟨_, rfl, ?_⟩
  split
  · rename_i h0
    simp only [Bool.and_eq_true, beq_iff_eq] at h0
    unfold qvl at ha hb
    rw [if_pos h0.1, Option.map_eq_some_iff] at ha
    rw [if_pos h0.2, Option.map_eq_some_iff] at hb
    obtain ⟨u, hu, rfl⟩ := ha
    obtain ⟨w, hw, rfl⟩ := hb
    exact q_rl1 h2 hu hw (by omega)
  · exact h2
/-- facts of single cells: learned -/
def qlrn : qN → qM → List qFa → Option (qN × qM × List AV)
  | N, M, [] => some (N, M, [])
  | N, M, f :: fs => (match M.2.1.find? (fun e => e.1 == f.1 && e.2.1 == f.2.1) with
    | some e => (match qnarI N e.2.2 f.2.2 with
      | some N1 => (match qlrn N1 M fs with
        | some y => some (y.1, y.2.1, e.2.2 :: y.2.2)
        | none => none)
      | none => none)
    | none => (match qlrn (qfr N f.2.2).1 (M.1, (f.1, f.2.1, (qfr N f.2.2).2) :: M.2.1, M.2.2) fs with
      | some y => some (y.1, y.2.1, (qfr N f.2.2).2 :: y.2.2)
      | none => none))
section QLR
variable {D : qWd} {γ : kΓ} {adr : List Nat} {ws : va_W}
theorem q_valc {σ : qσ} {ρ : qρ} {M : qM} (hH : qsM D γ adr σ ρ M ws) {f : qFa} (hf : f.1 < D.2.2) {x : Int} (hv : qval ws f = some x) : ∃ (a : Nat) (c : va_E) (y : Int32), ws[f.1]? = some (a, c) ∧ ρ f.1 = some a ∧ qrd c f.2.1 = some (.int y) ∧ y.toInt = x := by
  unfold qval at hv
  split at hv
  · rename_i c hc
    split at hv
    · rename_i y hy
      cases hv
      exact ⟨c.1, c.2, y, hc, by rw [hH.1 _ hf]; exact q_adr2 hH hc, hy, rfl⟩
    · cases hv
  · cases hv
theorem q_memv {σ : qσ} {ρ : qρ} {M : qM} (hH : qsM D γ adr σ ρ M ws) {f : qFa} (hf10 : f.2.1 < 10000) (hdis : ∀ (i j : Nat) (p q : Nat × va_E), ws[i]? = some p → ws[j]? = some q → p.1 = q.1 → i = j) {x : Int} (hf : f.1 < D.2.2) (hv : qval ws f = some x) {e : Nat × Nat × AV} (he : M.2.1.find? (fun e => e.1 == f.1 && e.2.1 == f.2.1) = some e) : ∃ y : Int32, qR σ ρ e.2.2 (.int y) ∧ y.toInt = x := by
  obtain ⟨a, c, y, h1, h2, h3, h4⟩ := q_valc hH hf hv
  have h5 := List.find?_some he
  simp only [Bool.and_eq_true, beq_iff_eq] at h5
  obtain ⟨n', k', av⟩ := e
  obtain ⟨q', a', c', v, ix, g1, g2, g3, g4, g5⟩ := hH.2.2.2.1 n' k' av (List.mem_of_find?_eq_some he)
  simp only at h5
  obtain ⟨rfl, rfl⟩ := h5
  have hix : ix = f.2.1 := by
    rcases g5 with ⟨-, h7⟩ | ⟨h7, -⟩
    · exact h7
    · omega
  subst hix
  rw [h2] at g2
  cases g2
  have := hdis q' _ _ _ g1 h1 rfl
  subst this
  rw [h1] at g1
  cases g1
  rw [h3] at g3
  cases g3
  exact ⟨y, g4, h4⟩
theorem q_lrn (hdis : ∀ (i j : Nat) (p q : Nat × va_E), ws[i]? = some p → ws[j]? = some q → p.1 = q.1 → i = j) : ∀ {fs : List qFa} {σ : qσ} {ρ : qρ} {N : qN} {M : qM}, qsN D σ N → qsM D γ adr σ ρ M ws → (∀ f ∈ fs, (f.1 < D.2.2 ∧ f.2.1 < 10000) ∧ ∃ x, qval ws f = some x ∧ qIn f.2.2 x) →
    ∃ z, qlrn N M fs = some z ∧ ∃ σ' : qσ, qle1 σ σ' ∧ qsN D σ' z.1 ∧ qsM D γ adr σ' ρ z.2.1 ws ∧ F2 (fun a f => ∃ x : Int32, qval ws f = some x.toInt ∧ qvl σ' a = some x.toInt) z.2.2 fs
  | [], σ, ρ, N, M, hN, hH, _ => ⟨_, rfl, σ, qle1.refl _, hN, hH, trivial⟩
  | f :: fs, σ, ρ, N, M, hN, hH, hf => by
    obtain ⟨⟨hf1, hf10⟩, x, hx, hix⟩ := hf f List.mem_cons_self
    have hf' := fun g hg => hf g (List.mem_cons_of_mem _ hg)
    unfold qlrn
    split
    · rename_i e he
      obtain ⟨y, hy1, hy2⟩ := q_memv hH hf10 hdis hf1 hx he
      have hvl := q_vl hy1
      obtain ⟨N1, e1, h1⟩ := q_narI hN hvl (iv := f.2.2) (by rw [hy2]; exact hix)
      rw [e1]
      simp only
      obtain ⟨z, e2, σ', s1, s2, s3, s4⟩ := q_lrn hdis h1 hH hf'
      rw [e2]
      refine ⟨_, rfl, σ', s1, s2, s3, ⟨y, by rw [hx, hy2], q_vl (hy1.mono s1 (qle2.refl _))⟩, s4⟩
    · obtain ⟨a, c, y, c1, c2, c3, c4⟩ := q_valc hH hf1 hx
      obtain ⟨σ1, t1, t2, t3⟩ := q_fr (ρ := ρ) hN (iv := f.2.2) (x := y) (by rw [c4]; exact hix)
      have hM1 := q_addm (hH.monoσ t1) hf10 c1 c2 c3 t3
      obtain ⟨z, e2, σ', s1, s2, s3, s4⟩ := q_lrn hdis t2 hM1 hf'
      rw [e2]
      exact ⟨_, rfl, σ', t1.trans s1, s2, s3, ⟨y, by rw [hx, c4], q_vl (t3.mono s1 (qle2.refl _))⟩, s4⟩
end QLR
theorem q_vlm {σ σ' : qσ} (h : qle1 σ σ') {a : AV} {x : Int} (hx : qvl σ a = some x) : qvl σ' a = some x := by
  unfold qvl at hx ⊢
  split at hx
  · rename_i h0
    rw [if_pos h0]
    rw [Option.map_eq_some_iff] at hx ⊢
    obtain ⟨u, u1, u2⟩ := hx
    exact ⟨u, h _ _ u1, u2⟩
  · rename_i h0
    rw [if_neg h0]; exact hx

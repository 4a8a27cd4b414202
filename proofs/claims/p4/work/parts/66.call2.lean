/-! calls by contract -/
def qmat (D : qWd) : qN → qM → List qFa → Option (qN × qM × List AV)
  | N, M, [] => some (N, M, [])
  | N, M, f :: fs => if f.1 < D.2.2 then (match D.2.1[f.1]? with
    | some r => if f.2.1 < r.2.1 then (match qrs D N M f.1 f.2.1 r with
      | some z => (match qiv z.1 z.2.2 with
        | some p => if qle f.2.2.1 p.1 && qle p.2 f.2.2.2 then (match qmat D z.1 z.2.1 fs with
          | some y => some (y.1, y.2.1, z.2.2 :: y.2.2)
          | none => none) else none
        | none => none)
      | none => none) else none
    | none => none) else none
section QMT
variable {D : qWd} {γ : kΓ} {adr : List Nat} {ws : va_W}
theorem q_mat (hD : qD D) (hdis : ∀ (i j : Nat) (p q : Nat × va_E), ws[i]? = some p → ws[j]? = some q → p.1 = q.1 → i = j) : ∀ {fs : List qFa} {σ : qσ} {ρ : qρ} {N : qN} {M : qM}, qsN D σ N → qsM D γ adr σ ρ M ws → ∀ {z : qN × qM × List AV}, qmat D N M fs = some z →
    ∃ (σ' : qσ) (ρ' : qρ), qle1 σ σ' ∧ qle2 ρ ρ' ∧ qsN D σ' z.1 ∧ qsM D γ adr σ' ρ' z.2.1 ws ∧ z.2.1.2.2 = M.2.2 ∧ F2 (fun a f => ∃ x : Int32, qval ws f = some x.toInt ∧ qIn f.2.2 x.toInt ∧ qvl σ' a = some x.toInt) z.2.2 fs
  | [], σ, ρ, N, M, hN, hH, z, hz => by
    cases hz
    exact ⟨σ, ρ, qle1.refl _, qle2.refl _, hN, hH, rfl, trivial⟩
  | f :: fs, σ, ρ, N, M, hN, hH, z, hz => by
    unfold qmat at hz
    split at hz
    · rename_i hf
      split at hz
      · rename_i r hr
        split at hz
        · rename_i hk
          split at hz
          · rename_i y hy
            split at hz
            · rename_i pv hpv
              split at hz
              · rename_i hq
                simp only [Bool.and_eq_true, qle, decide_eq_true_eq] at hq
                split at hz
                · rename_i w hw
                  cases hz
                  have hreg : qrg D M f.1 = some f.1 := by unfold qrg; rw [if_pos hf]
                  have hne : ¬ f.1 = qWR := by have := hD.1; unfold qWR; omega
                  have hsome : ∃ a, ρ f.1 = some a := by
                    rw [hH.1 _ hf]
                    have h9 := hD.2.1 _ hf
                    have hl : f.1 < adr.length := by
                      rw [← hH.2.2.2.2.1, List.length_map, hH.2.2.2.2.2.1]
                      exact (List.getElem?_eq_some_iff.mp h9).1
                    exact ⟨_, List.getElem?_eq_getElem hl⟩
                  obtain ⟨a, ha⟩ := hsome
                  obtain ⟨q, c, r', g1, g2, g3, g4, g5⟩ := q_cell hD hH hreg hne ha
                  rw [hr] at g3
                  cases g3
                  have := hD.2.2.1 q _ g1 hf
                  subst this
                  obtain ⟨σ1, ρ1, v, s1, r1, n1, m1, v1, v2⟩ := q_rs hD hN hH hdis g2 ha g5 hk hy
                  obtain ⟨x, rfl, hx⟩ := q_iv n1 v2 hpv
                  have hex : y.2.1.2.2 = M.2.2 := by
                    unfold qrs at hy
                    split at hy
                    · split at hy
                      · cases hy; rfl
                      · split at hy
                        · split at hy
                          · cases hy; rfl
                          · cases hy; rfl
                          · split at hy
                            · cases hy; rfl
                            · cases hy; rfl
                          · cases hy
                        · cases hy
                    · cases hy
                  obtain ⟨σ2, ρ2, s2, r2, n2, m2, e2, f2⟩ := q_mat hD hdis n1 m1 hw
                  refine ⟨σ2, ρ2, s1.trans s2, r1.trans r2, n2, m2, e2.trans hex, ⟨x, ?_, ⟨Int.le_trans hq.1 hx.1, Int.le_trans hx.2 hq.2⟩, q_vl (v2.mono s2 r2)⟩, f2⟩
                  unfold qval
                  rw [g2]
                  simp only [v1]
                · cases hz
              · cases hz
            · cases hz
          · cases hz
        · cases hz
      · cases hz
    · cases hz
end QMT
theorem F2.get2 {α β : Type} {R : α → β → Prop} {b : β} : ∀ {l : List α} {l' : List β} {k : Nat}, F2 R l l' → l'[k]? = some b → ∃ a, l[k]? = some a ∧ R a b
  | a :: _, _ :: _, 0, ⟨h1, _⟩, h => ⟨a, rfl, by simp at h; exact h ▸ h1⟩
  | _ :: _, _ :: _, k + 1, ⟨_, h2⟩, h => by
    obtain ⟨a, h3, h4⟩ := F2.get2 (k := k) h2 (by simpa using h)
    exact ⟨a, by simpa using h3, h4⟩
  | [], [], _, _, h => by simp at h
/-- what the alternatives of a contract tell -/
def qnarL (N : qN) (As : List AV) : List (Nat × Int × Int) → Option qN
  | [] => some N
  | q :: r => (match As[q.1]? with
    | some a => (match qnarI N a q.2 with
      | some N1 => qnarL N1 As r
      | none => none)
    | none => qnarL N As r)
def qrels (N : qN) (As : List AV) : List (Nat × Nat × Int) → Option qN
  | [] => some N
  | q :: r => (match As[q.1]?, As[q.2.1]? with
    | some a, some b => if qint a && qint b then (match qrelI N a b q.2.2 with
      | some N1 => qrels N1 As r
      | none => none) else qrels N As r
    | _, _ => qrels N As r)
/-- the answer is an element of an array: is it known already; none where nothing is to be noted -/
def qeqf (D : qWd) (M : qM) (As : List AV) (ty : qTy) (q : Option (Nat × Nat)) : Option (Option AV) := match q with
  | some q => (match As[q.2]? with
    | some a => if qkyb a && Nat.blt q.1 D.2.2 && ty.1 == 0 then some ((M.2.1.find? (fun e => e.1 == q.1 && e.2.1 == qky a)).map (fun e => e.2.2)) else none
    | none => none)
  | none => none
def qeqa (M : qM) (As : List AV) (v : AV) (q : Option (Nat × Nat)) : qM := match q with
  | some q => (match As[q.2]? with
    | some a => (M.1, (q.1, qky a, v) :: M.2.1, M.2.2)
    | none => M)
  | none => M
def qalts (D : qWd) (N : qN) (M : qM) (loc : List (Nat × AV)) (rest As pa : List AV) (pc : Nat) (t : qAlt) : Option qSu :=
  if t.2.1.all (fun f => Nat.blt f.1 D.2.2 && Nat.blt f.2.1 10000) then (match qnarL N As t.2.2.1 with
    | some N1 => (match qlrn N1 M t.2.1 with
      | some y => (match qrels y.1 (pa ++ (y.2.2 ++ As)) t.2.2.2.1 with
        | some N3 => (match t.1 with
          | some ty => (match qeqf D y.2.1 As ty t.2.2.2.2 with
            | some (some e) => (match qnarI N3 e ty.2 with
              | some N4 => some [((N4, (loc, e :: rest), y.2.1), pc + 3)]
              | none => some [])
            | o => (match qarg D N3 y.2.1 ty with
              | some z => some [((z.1, (loc, z.2.2 :: rest), (match o with
                | some _ => qeqa z.2.1 As z.2.2 t.2.2.2.2
                | none => z.2.1)), pc + 3)]
              | none => none))
          | none => some [((N3, (loc, rest), y.2.1), pc + 3)])
        | none => some [])
      | none => some [])
    | none => some []) else none
section QAL
variable {D : qWd} {γ : kΓ} {adr : List Nat}
theorem q_narL {σ : qσ} {ρ : qρ} {As : List AV} {av : List Value} (hA : F2 (qR σ ρ) As av) : ∀ {L : List (Nat × Int × Int)} {N : qN}, qsN D σ N → (∀ q ∈ L, ∃ x : Int32, av[q.1]? = some (.int x) ∧ qIn q.2 x.toInt) → ∃ N', qnarL N As L = some N' ∧ qsN D σ N'
  | [], N, hN, _ => ⟨N, rfl, hN⟩
  | q :: r, N, hN, h => by
    obtain ⟨x, h1, h2⟩ := h q List.mem_cons_self
    obtain ⟨a, h3, h4⟩ := F2.get2 hA h1
    unfold qnarL
    rw [h3]
    simp only
    obtain ⟨N1, e1, n1⟩ := q_narI hN (q_vl h4) h2
    rw [e1]
    exact q_narL hA n1 (fun q hq => h q (List.mem_cons_of_mem _ hq))
theorem q_rels {σ : qσ} {As : List AV} {f : Nat → Option Int} (hA : ∀ (i : Nat) (a : AV), As[i]? = some a → qint a = true → ∃ x : Int32, f i = some x.toInt ∧ qvl σ a = some x.toInt) : ∀ {L : List (Nat × Nat × Int)} {N : qN}, qsN D σ N → (∀ q ∈ L, ∃ x y, f q.1 = some x ∧ f q.2.1 = some y ∧ y + q.2.2 ≤ x) → ∃ N', qrels N As L = some N' ∧ qsN D σ N'
  | [], N, hN, _ => ⟨N, rfl, hN⟩
  | q :: r, N, hN, h => by
    obtain ⟨x, y, h1, h2, h3⟩ := h q List.mem_cons_self
    have hr := fun q hq => h q (List.mem_cons_of_mem _ hq)
    unfold qrels
    split
    · rename_i a b ha hb
      split
      · rename_i hi
        rw [Bool.and_eq_true] at hi
        obtain ⟨x', ex, vx⟩ := hA _ _ ha hi.1
        obtain ⟨y', ey, vy⟩ := hA _ _ hb hi.2
        rw [ex] at h1; cases h1
        rw [ey] at h2; cases h2
        obtain ⟨N1, e1, n1⟩ := q_relI hN vx vy (q_rng x') (q_rng y') h3
        rw [e1]
        exact q_rels hA n1 hr
      · exact q_rels hA hN hr
    · exact q_rels hA hN hr
theorem q_alts (hD : qD D) {w1 ws : va_W} (hdis : ∀ (i j : Nat) (p q : Nat × va_E), w1[i]? = some p → w1[j]? = some q → p.1 = q.1 → i = j) {σ : qσ} {ρ : qρ} {N : qN} {M : qM} (hN : qsN D σ N) (hH : qsM D γ adr σ ρ M w1) {As pa rest : List AV} {av : List Value} (hA : F2 (qR σ ρ) As av) {c : qCon} (hp : F2 (fun a f => ∃ x : Int32, qval ws f = some x.toInt ∧ qIn f.2.2 x.toInt ∧ qvl σ a = some x.toInt) pa c.2.2.1) {r : Option Value} {t : qAlt} (ht : qalt D γ c adr ws av r w1 t)
    {loc : List (Nat × AV)} {pc : Nat} {L : qSu} (hL : qalts D N M loc rest As pa pc t = some L) : ∃ (N' : qN) (M' : qM) (ra : List AV) (σ' : qσ) (ρ' : qρ), ((N', (loc, ra ++ rest), M'), pc + 3) ∈ L ∧ qle1 σ σ' ∧ qle2 ρ ρ' ∧ qsN D σ' N' ∧ qsM D γ adr σ' ρ' M' w1 ∧ F2 (qR σ' ρ') ra r.toList := by
  obtain ⟨t1, t2, t3, t4, t5⟩ := ht
  unfold qalts at hL
  split at hL
  · rename_i hwf
    simp only [List.all_eq_true, Bool.and_eq_true, Nat.blt_eq] at hwf
    obtain ⟨N1, e1, n1⟩ := q_narL hA hN t3
    rw [e1] at hL
    simp only at hL
    obtain ⟨y, e2, σ2, s2, n2, m2, f2⟩ := q_lrn hdis n1 hH (fun f hf => ⟨hwf f hf, t2 f hf⟩)
    rw [e2] at hL
    simp only at hL
    have hlen : pa.length = c.2.2.1.length := F2.len hp
    have hlen2 : y.2.2.length = t.2.1.length := F2.len f2
    obtain ⟨N3, e3, n3⟩ := q_rels (As := pa ++ (y.2.2 ++ As)) (f := qpv c.2.2.1 t.2.1 ws w1 av) (fun i a ha hint => by
      unfold qpv
      by_cases hi : i < c.2.2.1.length
      · rw [if_pos hi]
        rw [List.getElem?_append_left (by omega)] at ha
        obtain ⟨f, hf, x, x1, -, x3⟩ := F2.idx hp ha
        exact ⟨x, by rw [hf]; exact x1, q_vlm s2 x3⟩
      · rw [if_neg hi]
        rw [List.getElem?_append_right (by omega), hlen] at ha
        by_cases hi2 : i < c.2.2.1.length + t.2.1.length
        · rw [if_pos hi2]
          rw [List.getElem?_append_left (by omega)] at ha
          obtain ⟨f, hf, x, x1, x3⟩ := F2.idx f2 ha
          exact ⟨x, by rw [hf]; exact x1, x3⟩
        · rw [if_neg hi2]
          rw [List.getElem?_append_right (by omega), hlen2, show i - c.2.2.1.length - t.2.1.length = i - (c.2.2.1.length + t.2.1.length) by omega] at ha
          obtain ⟨v, hv, hr⟩ := F2.idx hA ha
          obtain ⟨x, rfl⟩ := q_int hr hint
          exact ⟨x, by rw [hv], q_vlm s2 (q_vl hr)⟩) n2 t4
    rw [e3] at hL
    simp only at hL
    rcases t1 with ⟨ta, rfl⟩ | ⟨ty, v, ta, rfl, tv⟩
    · rw [ta] at hL
      cases hL
      exact ⟨N3, y.2.1, [], σ2, ρ, List.mem_cons_self, s2, qle2.refl _, n3, m2, trivial⟩
    · rw [ta] at hL
      simp only at hL
      split at hL
      · rename_i e he
        -- the element is known
        have hkey : ∃ yv : Int32, v = .int yv ∧ qR σ2 ρ e (.int yv) := by
          unfold qeqf at he
          split at he
          · rename_i q hq
            split at he
            · rename_i a ha
              split at he
              · rename_i hb
                simp only [Bool.and_eq_true, Nat.blt_eq, beq_iff_eq] at hb
                simp only [Option.some.injEq, Option.map_eq_some_iff] at he
                obtain ⟨f, hf, rfl⟩ := he
                obtain ⟨a0, ce, x, yv, e1, e2, e3, e4, e5⟩ := t5 q hq
                cases e4
                have hf2 := List.find?_some hf
                simp only [Bool.and_eq_true, beq_iff_eq] at hf2
                obtain ⟨n', k', avf⟩ := f
                obtain ⟨q', a', c', v', ix, g1, g2, g3, g4, g5⟩ := m2.2.2.2.1 n' k' avf (List.mem_of_find?_eq_some hf)
                simp only at hf2
                obtain ⟨f1', f2'⟩ := hf2
                subst f1'
                subst f2'
                rw [m2.1 _ hb.1.2, q_adr2 m2 e1] at g2
                cases g2
                have := hdis q' _ _ _ g1 e1 rfl
                subst this
                rw [e1] at g1
                cases g1
                obtain ⟨u, hu, eu⟩ := (q_ky hb.1.1).mp g5
                obtain ⟨vv, hvv, hrr⟩ := F2.idx hA ha
                rw [e2] at hvv
                cases hvv
                have ha0 : a.1 = 0 := by have := hb.1.1; unfold qkyb at this; simp only [Bool.and_eq_true, beq_iff_eq] at this; exact this.1.1
                obtain ⟨u', hu', eu'⟩ := q_v0 hrr ha0
                rw [s2 _ _ hu'] at hu
                cases hu
                have hcl := q_clamp e3
                have : ix = x.toNatClampNeg := by omega
                subst this
                rw [e5] at g3
                cases g3
                exact ⟨yv, rfl, g4⟩
              · cases he
            · cases he
          · cases he
        obtain ⟨yv, rfl, hre⟩ := hkey
        have hty : ty.1 = 0 := by
          unfold qeqf at he
          split at he
          · split at he
            · split at he
              · rename_i hb
                simp only [Bool.and_eq_true, beq_iff_eq] at hb
                exact hb.2
              · cases he
            · cases he
          · cases he
        obtain ⟨yv', ev, hyv⟩ := tv.1 hty
        cases ev
        obtain ⟨N4, e4, n4⟩ := q_narI n3 (q_vl hre) hyv
        rw [e4] at hL
        cases hL
        exact ⟨N4, y.2.1, [e], σ2, ρ, List.mem_cons_self, s2, qle2.refl _, n4, m2, hre, trivial⟩
      · rename_i o ho
        split at hL
        · rename_i z hz
          cases hL
          obtain ⟨σ3, ρ3, s3, r3, n4, m4, v4⟩ := q_arg hD n3 m2 tv hz
          refine ⟨z.1, _, [z.2.2], σ3, ρ3, List.mem_cons_self, s2.trans s3, r3, n4, ?_, v4, trivial⟩
          split
          · rename_i o' heo
            unfold qeqa
            split
            · rename_i q hq
              split
              · rename_i a ha
                have hb : qkyb a = true ∧ q.1 < D.2.2 := by
                  unfold qeqf at heo
                  rw [hq] at heo
                  simp only [ha] at heo
                  split at heo
                  · rename_i hb
                    simp only [Bool.and_eq_true, Nat.blt_eq, beq_iff_eq] at hb
                    exact hb.1
                  · cases heo
                obtain ⟨a0, ce, x, yv, e1, e2, e3, e4, e5⟩ := t5 q hq
                cases e4
                obtain ⟨vv, hvv, hrr⟩ := F2.idx hA ha
                rw [e2] at hvv
                cases hvv
                have ha0 : a.1 = 0 := by have := hb.1; unfold qkyb at this; simp only [Bool.and_eq_true, beq_iff_eq] at this; exact this.1.1
                obtain ⟨u', hu', eu'⟩ := q_v0 hrr ha0
                have hcl := q_clamp e3
                refine q_addx m4 e1 (by rw [m4.1 _ hb.2]; exact q_adr2 m4 e1) e5 v4 ((q_ky hb.1).mpr ⟨u', s3 _ _ (s2 _ _ hu'), by omega⟩)
              · exact m4
            · exact m4
          · exact m4
        · cases hL
  · cases hL
end QAL

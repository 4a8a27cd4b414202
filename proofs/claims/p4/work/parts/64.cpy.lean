/-! array copies; exempt slots that are in order again -/
def qlit (N : qN) (a : AV) : Option Int := match qiv N a with
  | some p => if p.1 = p.2 then some p.1 else none
  | none => none
theorem q_lit {D : qWd} {σ : qσ} {ρ : qρ} {N : qN} (h : qsN D σ N) {a : AV} {v : Value} (hr : qR σ ρ a v) {n : Int} (hi : qlit N a = some n) : ∃ x : Int32, v = .int x ∧ x.toInt = n := by
  unfold qlit at hi
  split at hi
  · rename_i p hp
    split at hi
    · rename_i he
      cases hi
      obtain ⟨x, e, h1, h2⟩ := q_iv h hr hp
      exact ⟨x, e, by omega⟩
    · cases hi
  · cases hi
def qsubU (k : Nat) (t0 t : qTy) : Bool := t0.1 == k && t.1 == k && qle t.2.1 t0.2.1 && qle t0.2.2 t.2.2
def qwt (stk : List AV) : Nat := match stk with
  | [] => 0
  | a :: r => (if a.1 = 2 then 2 else 1) + qwt r
theorem q_wt {σ : qσ} {ρ : qρ} : ∀ {stk : List AV} {st : List Value}, F2 (qR σ ρ) stk st → (st.map fun v => v.category).sum = qwt stk
  | [], [], _ => rfl
  | a :: stk, v :: st, ⟨h1, h2⟩ => by
    simp only [List.map_cons, List.sum_cons, qwt]
    rw [q_wt h2, h1.cat.2]
/-- fr, lc: the room -/
def qs_cpy (D : qWd) (ms : qMods) (xr : List Nat) (cps : List Nat) (fr lc : Nat) (S : AS) (idx pc : Nat) : Option qSu :=
  match S.2.1.2 with
  | n :: dp :: b :: sp :: a :: stk => if cps.contains idx && a.1 == 3 && b.1 == 3 && Nat.ble 1 fr && Nat.ble (qwt stk + (nativeFrameWords "java/lang/System" "arraycopy" 5 + 11)) lc && S.2.2.2.2.isEmpty then
      (match qrg D S.2.2 a.2.1, qrg D S.2.2 b.2.1, qlit S.1 sp, qlit S.1 dp, qiv S.1 n with
      | some ga, some gb, some s0, some d0, some p => if ga == qWR || gb == qWR then none else (match D.2.1[ga]?, D.2.1[gb]? with
        | some ra, some rb => if Nat.ble ra.1 1 && ra.1 == rb.1 && qle 0 s0 && qle 0 d0 && qle 0 p.1 && qle 1 p.2 && qle (s0 + p.2) ra.2.1 && qle (d0 + p.2) rb.2.1 &&
            ms.any (fun m => m.1 == gb && Nat.ble m.2.1 d0.toNat && Nat.ble (d0 + p.2 - 1).toNat m.2.2) && !(xr.contains gb) && (List.range p.2.toNat).all (fun k => qsubU ra.1 (qsg ra.2.2 (s0.toNat + k)) (qsg rb.2.2 (d0.toNat + k))) then
              some [((S.1, (S.2.1.1, stk), qcl D S.2.2 gb d0.toNat (d0 + p.2 - 1).toNat), pc + 3)] else none
        | _, _ => none)
      | _, _, _, _, _ => none) else none
  | _ => none
theorem qs_cpyG {x : qCx} (hB : qB x) {D : qWd} (eD : qxD x = D) (hD : qD D) {ms : qMods} (ems : qxms x = ms) {xr : List Nat} (hX : qxok x xr) {cps : List Nat} (hcp : ∀ i ∈ cps, Cond.methodLink (qxown x) i arraycopyName ∈ kG) {fr lc : Nat} (hR : fr ≤ x.2.2.2.2.1.frames ∧ lc ≤ x.2.2.2.2.1.locals)
    {S : AS} {idx pc : Nat} {L : qSu} (hs : qs_cpy D ms xr cps fr lc S idx pc = some L) (hdc : qdc x pc (.invokestatic idx, 3)) (h : qOk x L) : qG x S pc := by
  obtain ⟨γ, p, l, e, R, s, m, args, below, meth, c, Q, ⟨cc, nL', own⟩, A, D', adr, X, ms', w0, σe⟩ := x
  simp only [qxD] at eD
  simp only [qxms] at ems
  subst eD
  subst ems
  obtain ⟨N, ⟨loc, stk⟩, M⟩ := S
  unfold qs_cpy at hs
  split at hs
  · rename_i n dp b sp a stk' heq
    simp only at heq
    subst heq
    split at hs
    · rename_i hc
      simp only [Bool.and_eq_true, beq_iff_eq, Nat.ble_eq] at hc
      obtain ⟨⟨⟨⟨⟨c1, c2⟩, c3⟩, c4⟩, c5⟩, c6⟩ := hc
      split at hs
      · rename_i ga gb s0 d0 pv hga hgb hs0 hd0 hpv
        split at hs
        · cases hs
        · rename_i hne
          simp only [Bool.or_eq_true, beq_iff_eq, not_or] at hne
          split at hs
          · rename_i ra rb hra hrb
            split at hs
            · rename_i hk
              simp only [Bool.and_eq_true, beq_iff_eq, Nat.ble_eq, qle, decide_eq_true_eq, List.all_eq_true, List.mem_range, Bool.not_eq_true'] at hk
              obtain ⟨⟨⟨⟨⟨⟨⟨⟨⟨⟨k1, k2⟩, k3⟩, k4⟩, k5⟩, k6⟩, k7⟩, k8⟩, k9⟩, k10⟩, k11⟩ := hk
              cases hs
              have hG := qOk1 h
              intro σ ρ lv st ls ws H locs hw hl hS
              obtain ⟨h1, h2, h3, h4, h5, h6⟩ := hS
              match st, h2.2 with
              | vn :: vd :: vb :: vs :: va :: st, ⟨rn, rd, rbb, rs, raa, hst⟩ =>
              obtain ⟨xa, rfl, ha⟩ := q_rfv raa c2
              obtain ⟨xb, rfl, hb⟩ := q_rfv rbb c3
              obtain ⟨xs, rfl, hxs⟩ := q_lit h1 rs hs0
              obtain ⟨xd, rfl, hxd⟩ := q_lit h1 rd hd0
              obtain ⟨xn, rfl, hxn⟩ := q_iv h1 rn hpv
              simp only [qIn] at hxn
              have es := q_clamp (i := xs) (by omega)
              have ed := q_clamp (i := xd) (by omega)
              have en := q_clamp (i := xn) (by omega)
              obtain ⟨qa, ca, ra', a1, a2, a3, a4, a5⟩ := q_cell hD h3 hga hne.1 ha
              rw [hra] at a3; cases a3
              obtain ⟨qb, cb, rb', b1, b2, b3, b4, b5⟩ := q_cell hD h3 hgb hne.2 hb
              rw [hrb] at b3; cases b3
              have n1 : ¬ xs < 0 := by rw [Int32.lt_iff_toInt_lt]; simp; omega
              have n2 : ¬ xd < 0 := by rw [Int32.lt_iff_toInt_lt]; simp; omega
              have n3 : ¬ xn < 0 := by rw [Int32.lt_iff_toInt_lt]; simp; omega
              have hex0 : M.2.2 = [] := by simpa using c6
              have hnoex : ∀ a k, ¬ qexA ρ M.2.2 a k := by
                rintro a' k' ⟨n', z1, -⟩
                rw [hex0] at z1; cases z1
              have hsum : (st.map fun v => v.category).sum + (nativeFrameWords "java/lang/System" "arraycopy" 5 + 11) ≤ R.locals := by
                rw [q_wt hst]
                exact Nat.le_trans c5 hR.2
              have hfr : 1 ≤ R.frames := Nat.le_trans c4 hR.1
              have hlnk : Cond.methodLink own idx arraycopyName ∈ kG := hcp idx (by simpa using c1)
              have ei1 : d0.toNat = xd.toNatClampNeg := by omega
              have ei2 : xd.toNatClampNeg + xn.toNatClampNeg ≤ (d0 + pv.2 - 1).toNat + 1 := by omega
              have hX' : ∀ c', X (ws.set qb (xb, c')) := fun c' => hX ws qb gb xb c' b1 (by simpa using k10) h3.2.2.2.2.1 (q_adr2 h3 b2) h4
              have fin : ∀ c', qsame γ rb cb c' d0.toNat (d0 + pv.2 - 1).toNat → (∀ k, k < rb.2.1 → d0.toNat ≤ k → k ≤ (d0 + pv.2 - 1).toNat → ∃ v, qrd c' k = some v ∧ qvT D' γ adr (qsg rb.2.2 k) v) → ∀ (H1 : Heap) (locs1 : List Loc), kW γ A (ws.set qb (xb, c')) s H1 locs1 → qWp (γ, p, l, e, R, s, m, args, below, meth, c, Q, (cc, nL', own), A, D', adr, X, ms', w0, σe) H1 locs1 (pc + 3) ls st := by
                intro c' hsm hty H1 locs1 hw1
                have hM := q_wr hD h3 hw.2.1.1 b1 hrb b2 hsm (ex' := M.2.2) (fun a' k' h _ => h) (fun k hk e1 e2 => .inr (hty k hk e1 e2))
                exact hG σ ρ lv st ls _ H1 locs1 hw1 hl ⟨h1, ⟨h2.1, hst⟩, hM, hX' c', q_keep h5 b1 b2 hsm.2 k9, h6⟩
              by_cases t0 : ra.1 = 0
              · obtain ⟨f, rfl, -⟩ := q_arrI a4 (.inl t0)
                obtain ⟨g, rfl, hlen⟩ := q_arrI b4 (.inl (k2 ▸ t0))
                rw [t0] at a2
                rw [← k2, t0] at b2
                refine k_copyi hB hw hlnk hl.1 qa qb a2 b2 n1 n2 n3 (by omega) (by omega) hfr hsum hdc ?_
                refine fin _ ⟨⟨by rw [← k2, t0], rfl, hlen, .inl (by rw [← k2, t0])⟩, fun k hk => ?_⟩ (fun k hk e1 e2 => ?_)
                · have hn : ¬ (xd.toNatClampNeg ≤ k ∧ k < xd.toNatClampNeg + xn.toNatClampNeg) := by omega
                  simp only [qrd, va_cpy, if_neg hn]
                · simp only [qrd, va_cpy]
                  rw [if_pos hk]
                  by_cases hin : xd.toNatClampNeg ≤ k ∧ k < xd.toNatClampNeg + xn.toNatClampNeg
                  · rw [if_pos hin]
                    rcases a5 (xs.toNatClampNeg + (k - xd.toNatClampNeg)) (by omega) with z | ⟨v, v1, v2⟩
                    · exact absurd z (hnoex _ _)
                    · have hsu := k11 (k - xd.toNatClampNeg) (by omega)
                      rw [show s0.toNat + (k - xd.toNatClampNeg) = xs.toNatClampNeg + (k - xd.toNatClampNeg) by omega, show d0.toNat + (k - xd.toNatClampNeg) = k by omega] at hsu
                      unfold qsubU at hsu
                      simp only [Bool.and_eq_true, beq_iff_eq, qle, decide_eq_true_eq] at hsu
                      obtain ⟨⟨⟨u1, u2⟩, u3⟩, u4⟩ := hsu
                      simp only [qrd] at v1
                      rw [if_pos (by omega)] at v1
                      cases v1
                      obtain ⟨y, ey, hy⟩ := v2.1 (u1.trans t0)
                      cases ey
                      refine ⟨_, rfl, fun _ => ⟨_, rfl, Int.le_trans u3 hy.1, Int.le_trans hy.2 u4⟩, fun z => ?_, fun z => ?_⟩
                      · rw [u2, t0] at z; cases z
                      · rw [u2, t0] at z; cases z
                  · rw [if_neg hin]
                    rcases b5 k hk with z | ⟨v, v1, v2⟩
                    · exact absurd z (hnoex _ _)
                    · simp only [qrd] at v1
                      rw [if_pos hk] at v1
                      exact ⟨v, v1, v2⟩
              · have t1 : ra.1 = 1 := by omega
                obtain ⟨f, rfl, -⟩ := q_arrL a4 t1
                obtain ⟨g, rfl, hlen⟩ := q_arrL b4 (k2 ▸ t1)
                rw [t1] at a2
                rw [← k2, t1] at b2
                refine k_copyl hB hw hlnk hl.1 qa qb a2 b2 n1 n2 n3 (by omega) (by omega) hfr hsum hdc ?_
                refine fin _ ⟨⟨by rw [← k2, t1], rfl, hlen, by rw [← k2, t1]⟩, fun k hk => ?_⟩ (fun k hk e1 e2 => ?_)
                · have hn : ¬ (xd.toNatClampNeg ≤ k ∧ k < xd.toNatClampNeg + xn.toNatClampNeg) := by omega
                  simp only [qrd, va_cpy, if_neg hn]
                · simp only [qrd, va_cpy]
                  rw [if_pos hk]
                  by_cases hin : xd.toNatClampNeg ≤ k ∧ k < xd.toNatClampNeg + xn.toNatClampNeg
                  · rw [if_pos hin]
                    rcases a5 (xs.toNatClampNeg + (k - xd.toNatClampNeg)) (by omega) with z | ⟨v, v1, v2⟩
                    · exact absurd z (hnoex _ _)
                    · have hsu := k11 (k - xd.toNatClampNeg) (by omega)
                      rw [show s0.toNat + (k - xd.toNatClampNeg) = xs.toNatClampNeg + (k - xd.toNatClampNeg) by omega, show d0.toNat + (k - xd.toNatClampNeg) = k by omega] at hsu
                      unfold qsubU at hsu
                      simp only [Bool.and_eq_true, beq_iff_eq, qle, decide_eq_true_eq] at hsu
                      obtain ⟨⟨⟨u1, u2⟩, u3⟩, u4⟩ := hsu
                      simp only [qrd] at v1
                      rw [if_pos (by omega)] at v1
                      cases v1
                      obtain ⟨y, ey, hy⟩ := v2.2.1 (u1.trans t1)
                      cases ey
                      refine ⟨_, rfl, fun z => ?_, fun _ => ⟨_, rfl, Int.le_trans u3 hy.1, Int.le_trans hy.2 u4⟩, fun z => ?_⟩
                      · rw [u2, t1] at z; cases z
                      · rw [u2, t1] at z; cases z
                  · rw [if_neg hin]
                    rcases b5 k hk with z | ⟨v, v1, v2⟩
                    · exact absurd z (hnoex _ _)
                    · simp only [qrd] at v1
                      rw [if_pos hk] at v1
                      exact ⟨v, v1, v2⟩
            · cases hs
          · cases hs
      · cases hs
    · cases hs
  · cases hs
/-- exempt slots that hold again what their type says -/
def qclr (D : qWd) (N : qN) (M : qM) : qM := (M.1, M.2.1, M.2.2.filter (fun e => !(match qrg D M e.1 with
  | some g => !(g == qWR) && (match D.2.1[g]? with
    | some r => Nat.blt e.2 10000 && M.2.1.any (fun f => f.1 == e.1 && f.2.1 == e.2 && qtk D N M f.2.2 (qsg r.2.2 e.2))
    | none => false)
  | none => false)))
theorem q_clr {D : qWd} (hD : qD D) {γ : kΓ} {adr : List Nat} {σ : qσ} {ρ : qρ} {N : qN} {M : qM} {ws : va_W} (hN : qsN D σ N) (hH : qsM D γ adr σ ρ M ws) (hdis : ∀ (i j : Nat) (p q : Nat × va_E), ws[i]? = some p → ws[j]? = some q → p.1 = q.1 → i = j) : qsM D γ adr σ ρ (qclr D N M) ws := by
  refine ⟨hH.1, hH.2.1, hH.2.2.1, hH.2.2.2.1, hH.2.2.2.2.1, hH.2.2.2.2.2.1, fun q g a c hg hc => ?_⟩
  obtain ⟨r, r1, r2, r3⟩ := hH.2.2.2.2.2.2 q g a c hg hc
  refine ⟨r, r1, r2, fun k hk => ?_⟩
  rcases r3 k hk with ⟨n, n1, n2⟩ | h
  · by_cases hb : (match qrg D M n with
      | some g => !(g == qWR) && (match D.2.1[g]? with
        | some r => Nat.blt k 10000 && M.2.1.any (fun f => f.1 == n && f.2.1 == k && qtk D N M f.2.2 (qsg r.2.2 k))
        | none => false)
      | none => false) = true
    · right
      split at hb
      · rename_i g' hg'
        simp only [Bool.and_eq_true, Bool.not_eq_true', beq_eq_false_iff_ne, ne_eq] at hb
        obtain ⟨hb1, hb2⟩ := hb
        split at hb2
        · rename_i r' hr'
          rw [Bool.and_eq_true, Nat.blt_eq, List.any_eq_true] at hb2
          obtain ⟨hk10, ⟨n', k', av⟩, m1, m2⟩ := hb2
          simp only [Bool.and_eq_true, beq_iff_eq] at m2
          obtain ⟨⟨e1, e2⟩, m3⟩ := m2
          subst e1; subst e2
          obtain ⟨q', a', c', v, ix, g1, g2, g3, g4, g5⟩ := hH.2.2.2.1 _ _ _ m1
          have hix : ix = k' := by
            rcases g5 with ⟨-, h7⟩ | ⟨h7, -⟩
            · exact h7
            · omega
          subst hix
          rw [n2] at g2
          cases g2
          have := hdis q' q _ _ g1 hc rfl
          subst this
          rw [hc] at g1
          cases g1
          obtain ⟨q2, c2, r2', z1, z2, z3, -⟩ := q_cell hD hH hg' hb1 n2
          have := hdis q2 q' _ _ z2 hc rfl
          subst this
          rw [hg] at z1
          cases z1
          rw [hr'] at z3
          cases z3
          rw [r1] at hr'
          cases hr'
          exact ⟨v, g3, q_tk hD hN hH g4 m3⟩
        · cases hb2
      · cases hb
    · left
      refine ⟨n, ?_, n2⟩
      unfold qclr
      simp only [List.mem_filter]
      exact ⟨n1, by simpa using hb⟩
  · exact .inr h
/-- an array's length -/
def qs_len (D : qWd) (S : AS) (pc : Nat) : Option qSu :=
  match S.2.1.2 with
  | a :: stk => if a.1 == 3 then (match qrg D S.2.2 a.2.1 with
    | some g => if g == qWR then none else (match D.2.1[g]? with
      | some r => if Nat.blt r.1 4 then some [((S.1, (S.2.1.1, (1, 0, (r.2.1 : Int)) :: stk), S.2.2), pc + 1)] else none
      | none => none)
    | none => none) else none
  | _ => none
theorem qs_lenG {x : qCx} (hB : qB x) {D : qWd} (eD : qxD x = D) (hD : qD D) {S : AS} {pc : Nat} {L : qSu} (hs : qs_len D S pc = some L) (hdc : qdc x pc (.arraylength, 1)) (h : qOk x L) : qG x S pc := by
  obtain ⟨γ, p, l, e, R, s, m, args, below, meth, c, Q, ⟨cc, nL', own⟩, A, D', adr, X, ms', w0, σe⟩ := x
  simp only [qxD] at eD
  subst eD
  obtain ⟨N, ⟨loc, stk⟩, M⟩ := S
  unfold qs_len at hs
  split at hs
  · rename_i a stk' heq
    simp only at heq
    subst heq
    split at hs
    · rename_i ha
      simp only [beq_iff_eq] at ha
      split at hs
      · rename_i g hg
        split at hs
        · cases hs
        · rename_i hne
          split at hs
          · rename_i r hr
            split at hs
            · rename_i hk
              simp only [Nat.blt_eq] at hk
              cases hs
              have hG := qOk1 h
              intro σ ρ lv st ls ws H locs hw hl hS
              obtain ⟨h1, h2, h3, h4, h5, h6⟩ := hS
              match st, h2.2 with
              | v0 :: st, ⟨hra, hst⟩ =>
              obtain ⟨b, rfl, hb⟩ := q_rfv hra ha
              obtain ⟨q, cl, r', g1, g2, g3, g4, g5⟩ := q_cell hD h3 hg (by simpa using hne) hb
              rw [hr] at g3
              cases g3
              have key : ∀ (t0 : Nat) (y : vp_A) (ty : FieldType), cl = .inl (γ.2.1 t0, y) → y.1 = r.2.1 → r.2.1 < 2147483648 → (kT γ.2.1)[t0]? = some (γ.2.1 t0, ty) → qWp (γ, p, l, e, R, s, m, args, below, meth, c, Q, (cc, nL', own), A, D', adr, X, ms', w0, σe) H locs pc ls (.ref b :: st) := by
                intro t0 y ty hcl hy hlt hty
                subst hcl
                refine k_alen hB hw q t0 g2 hty rfl hdc ?_
                refine hG σ ρ lv _ ls ws H locs hw hl ⟨h1, ⟨h2.1, .inr (.inl ⟨rfl, _, rfl, ?_⟩), hst⟩, h3, h4, h5, h6⟩
                rw [hy]
                exact nI_toInt hlt
              by_cases e0 : r.1 = 1
              · obtain ⟨f, rfl, hlt⟩ := q_arrL g4 e0
                exact key 1 _ .long (by rw [e0]) rfl hlt rfl
              · obtain ⟨f, rfl, hlt⟩ := q_arrI g4 (by omega)
                have e3 : r.1 = 0 ∨ r.1 = 2 ∨ r.1 = 3 := by omega
                rcases e3 with e3 | e3 | e3
                · exact key 0 _ .int (by rw [e3]) rfl hlt rfl
                · exact key 2 _ .byte (by rw [e3]) rfl hlt rfl
                · exact key 3 _ .boolean (by rw [e3]) rfl hlt rfl
            · cases hs
          · cases hs
      · cases hs
    · cases hs
  · cases hs
/-- the greater and the less of two -/
theorem gw_mxc : Cond.code Lib.Math.max.name Lib.Math.max.code 2 (some .int) ∈ kG := kG_mk (by decide +kernel) (by decide +kernel)
theorem gw_mnc : Cond.code Lib.Math.min.name Lib.Math.min.code 2 (some .int) ∈ kG := kG_mk (by decide +kernel) (by decide +kernel)
theorem gw_mxs : Cond.static Lib.Math.max.name ∈ kG := kG_mk (by decide +kernel) (by decide +kernel)
theorem gw_mns : Cond.static Lib.Math.min.name ∈ kG := kG_mk (by decide +kernel) (by decide +kernel)
theorem gw_mmi : Cond.initialized "java/lang/Math" ∈ kG := kG_mk (by decide +kernel) (by decide +kernel)
def qmmk (own : String) (q : Nat × Bool) : Prop := (q.2 = true → Cond.methodLink own q.1 Lib.Math.max.name ∈ kG) ∧ (q.2 = false → Cond.methodLink own q.1 Lib.Math.min.name ∈ kG)
def qs_mm (mms : List (Nat × Bool)) (fr lc : Nat) (S : AS) (idx pc : Nat) : Option qSu :=
  match mms.find? (fun q => q.1 == idx), S.2.1.2 with
  | some q, b :: a :: stk => if qint a && qint b && Nat.ble 1 fr && Nat.ble (qwt stk + 13) lc then (match qiv S.1 a, qiv S.1 b with
    | some p, some r => some [(((qfr S.1 (if q.2 then (qmax p.1 r.1, qmax p.2 r.2) else (qmin p.1 r.1, qmin p.2 r.2))).1, (S.2.1.1, (qfr S.1 (if q.2 then (qmax p.1 r.1, qmax p.2 r.2) else (qmin p.1 r.1, qmin p.2 r.2))).2 :: stk), S.2.2), pc + 3)]
    | _, _ => none) else none
  | _, _ => none
theorem qs_mmG {x : qCx} (hB : qB x) {mms : List (Nat × Bool)} (hmm : ∀ q ∈ mms, qmmk (qxown x) q) {fr lc : Nat} (hR : fr ≤ x.2.2.2.2.1.frames ∧ lc ≤ x.2.2.2.2.1.locals) {S : AS} {idx pc : Nat} {L : qSu} (hs : qs_mm mms fr lc S idx pc = some L) (hdc : qdc x pc (.invokestatic idx, 3)) (h : qOk x L) : qG x S pc := by
  obtain ⟨γ, p, l, e, R, s, m, args, below, meth, c, Q, ⟨cc, nL', own⟩, A, D', adr, X, ms', w0, σe⟩ := x
  obtain ⟨N, ⟨loc, stk⟩, M⟩ := S
  unfold qs_mm at hs
  split at hs
  · rename_i q b a stk' hq heq
    simp only at heq
    subst heq
    split at hs
    · rename_i hc
      simp only [Bool.and_eq_true, Nat.ble_eq] at hc
      obtain ⟨⟨⟨c1, c2⟩, c3⟩, c4⟩ := hc
      split at hs
      · rename_i pa pb hpa hpb
        cases hs
        have hG := qOk1 h
        have hqi := List.find?_some hq
        simp only [beq_iff_eq] at hqi
        obtain ⟨k1, k2⟩ := hmm q (List.mem_of_find?_eq_some hq)
        rw [hqi] at k1 k2
        intro σ ρ lv st ls ws H locs hw hl hS
        obtain ⟨h1, h2, h3, h4, h5, h6⟩ := hS
        match st, h2.2 with
        | vb :: va :: st, ⟨hrb, hra, hst⟩ =>
        obtain ⟨xa, rfl, ia⟩ := q_iv h1 hra hpa
        obtain ⟨xb, rfl, ib⟩ := q_iv h1 hrb hpb
        simp only [qIn] at ia ib
        have hsum : (st.map fun v => v.category).sum + 13 ≤ R.locals := by
          rw [q_wt hst]
          exact Nat.le_trans c4 hR.2
        have hfr : 1 ≤ R.frames := Nat.le_trans c3 hR.1
        have go : ∀ y : Int32, qIn (if q.2 then (qmax pa.1 pb.1, qmax pa.2 pb.2) else (qmin pa.1 pb.1, qmin pa.2 pb.2)) y.toInt → qWp (γ, p, l, e, R, s, m, args, below, meth, c, Q, (cc, nL', own), A, D', adr, X, ms', w0, σe) H locs (pc + 3) ls (.int y :: st) := by
          intro y hy
          obtain ⟨σ', s1, s2, s3⟩ := q_fr (ρ := ρ) h1 hy
          have hF := h2.mono s1 (fun _ _ h => h)
          exact hG σ' ρ lv (.int y :: st) ls ws H locs hw hl ⟨s2, ⟨hF.1, s3, hF.2.2.2⟩, h3.monoσ s1, h4, h5, fun v x hv => s1 v x (h6 v x hv)⟩
        have hml : c.maxLocals = ls.size := hB.2.2.1.trans hl.1.symm
        cases hb2 : q.2 with
        | true =>
          refine va_mmax hB.1 hB.2.1 hml hB.2.2.2.1 (hB.2.2.2.2.1 _ (k1 hb2)) (hB.2.2.2.2.1 _ gw_mxs) (hB.2.2.2.2.1 _ gw_mmi) (hB.2.2.2.2.1 _ gw_mxc) hfr hsum (Nat.zero_le _) (Nat.zero_le _) hdc (go _ ?_)
          rw [hb2]
          by_cases hlt : xa < xb
          · have := Int32.lt_iff_toInt_lt.mp hlt
            rw [if_pos hlt]
            simp only [if_true, qIn, qmax]
            constructor <;> split <;> omega
          · have : ¬ xa.toInt < xb.toInt := fun h => hlt (Int32.lt_iff_toInt_lt.mpr h)
            rw [if_neg hlt]
            simp only [if_true, qIn, qmax]
            constructor <;> split <;> omega
        | false =>
          refine va_mmin hB.1 hB.2.1 hml hB.2.2.2.1 (hB.2.2.2.2.1 _ (k2 hb2)) (hB.2.2.2.2.1 _ gw_mns) (hB.2.2.2.2.1 _ gw_mmi) (hB.2.2.2.2.1 _ gw_mnc) hfr hsum (Nat.zero_le _) (Nat.zero_le _) hdc (go _ ?_)
          rw [hb2]
          by_cases hlt : xb < xa
          · have := Int32.lt_iff_toInt_lt.mp hlt
            rw [if_pos hlt]
            simp only [Bool.false_eq_true, if_false, qIn, qmin]
            constructor <;> split <;> omega
          · have : ¬ xb.toInt < xa.toInt := fun h => hlt (Int32.lt_iff_toInt_lt.mpr h)
            rw [if_neg hlt]
            simp only [Bool.false_eq_true, if_false, qIn, qmin]
            constructor <;> split <;> omega
      · cases hs
    · cases hs
  · cases hs

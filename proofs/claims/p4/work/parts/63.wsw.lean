/-! words, switches, array copies -/
section QWD
variable {γ : kΓ} {p : Program} {l : Launch} {e : Env} {R : Room} {s : State} {m : MethodId} {args : Array Value} {below : List Frame} {meth : Method} {c : Code} {H : Heap} {locs : List Loc} {cells slots : Nat} {Q : State → Prop}
variable {cc : ByteArray} {nL pc : Nat} {own : String} {A : Nat → Prop} {ws : va_W} {ls : Array Slot} {rest : List Value}
theorem k_zw (hC : kC γ p s m args c cc nL own A) : kZw γ A s s.heap := kZw.narrow hC.2.2.2.2.2.1.2.2.2.2.2 (fun q h => hC.2.2.2.2.2.2.2 q h)
theorem k_word (hC : kC γ p s m args c cc nL own A) (hw : kW γ A ws s H locs) {index n : Nat} (hn : n < 26) (hg : Cond.fieldLink own index RX10 (kWn.getD n "") "LTithedThoughts$Word;" ∈ kG) (hdg : decode cc pc = .ok (.getstatic index, 3))
    (kk : W p l e R s m args below meth c H locs cells slots Q (F0 m (pc + 3) ls (.ref (γ.2.2.2.2 n) :: rest))) : W p l e R s m args below meth c H locs cells slots Q (F0 m pc ls rest) :=
  va_gets hC.1 hC.2.1 ((k_zw hC).1 n hn).1 hw.2.2 hC.2.2.2.1 (hC.2.2.2.2.1 _ hg) (fun _ h => h) hdg kk
theorem k_wordN (hC : kC γ p s m args c cc nL own A) (hw : kW γ A ws s H locs) {index i : Nat} {n d host : String} {v : Nat → Value} (hE : va_Ef 26 RX10 n d v γ.2.2.2.2 A s s.heap) (hi : i < 26) (hl : Cond.fieldLinkNest own index RX10 n d host ∈ kN) (hdg : decode cc pc = .ok (.getfield index, 3))
    (kk : W p l e R s m args below meth c H locs cells slots Q (F0 m (pc + 3) ls (v i :: rest))) : W p l e R s m args below meth c H locs cells slots Q (F0 m pc ls (.ref (γ.2.2.2.2 i) :: rest)) := by
  obtain ⟨cf, k, fi, f, cell, h1, h2, h3, h4, h5, h6⟩ := (hE i hi).kept hw.2.2.2.1
  exact va_Wgetf hC.1 hC.2.1 hC.2.2.2.1 (va_Nw.use rfl (hC.2.2.2.2.2.1.2.1 _ hl)) h1 h2 h3 h4 (v := v i) h5 rfl rfl hdg kk
end QWD
def qs_gs (D : qWd) (sts : List Nat) (S : AS) (idx pc : Nat) : Option qSu :=
  if sts.contains idx then some [((S.1, (S.2.1.1, (3, D.2.2 + S.2.2.1.length, 0) :: S.2.1.2), (S.2.2.1 ++ [qWR], S.2.2.2)), pc + 3)] else none
def qstk (own : String) (i : Nat) : Prop := ∃ n, n < 26 ∧ Cond.fieldLink own i RX10 (kWn.getD n "") "LTithedThoughts$Word;" ∈ kG
theorem qs_gsG {x : qCx} (hB : qB x) {D : qWd} (eD : qxD x = D) {sts : List Nat} (hst : ∀ i ∈ sts, qstk (qxown x) i) {S : AS} {idx pc : Nat} {L : qSu} (hs : qs_gs D sts S idx pc = some L) (hdc : qdc x pc (.getstatic idx, 3)) (h : qOk x L) : qG x S pc := by
  obtain ⟨γ, p, l, e, R, s, m, args, below, meth, c, Q, ⟨cc, nL', own⟩, A, D', adr, X, ms', w0, σe⟩ := x
  simp only [qxD] at eD
  subst eD
  unfold qs_gs at hs
  split at hs
  · rename_i hc
    cases hs
    have hG := qOk1 h
    obtain ⟨n, hn, hg⟩ := hst idx (by simpa using hc)
    intro σ ρ lv st ls ws H locs hw hl hS
    obtain ⟨h1, h2, h3, h4, h5, h6⟩ := hS
    obtain ⟨ρ', s1, s2, s3⟩ := q_frR h3 (g := qWR) (a := qwad γ n) (.inl ⟨rfl, n, hn, rfl⟩)
    have hF := h2.mono (fun _ _ h => h) s1
    exact k_word hB hw hn hg hdc (hG σ ρ' lv (.ref (qwad γ n) :: st) ls ws H locs hw hl ⟨h1, ⟨hF.1, .inr (.inr (.inr ⟨rfl, _, rfl, s3⟩)), hF.2⟩, s2, h4, h5, h6⟩)
  · cases hs
/-- a word's own row: index, 0 mayName, 1 value -/
def qwfk (own : String) (f : Nat × Nat) : Prop := ∃ host, (f.2 = 0 ∧ Cond.fieldLinkNest own f.1 RX10 "mayName" "Z" host ∈ kN) ∨ (f.2 = 1 ∧ Cond.fieldLinkNest own f.1 RX10 "value" "I" host ∈ kN)
def qwiv (k : Nat) : qIv := if k = 0 then (0, 1) else (-7, 16)
def qs_getw (D : qWd) (wfs : List (Nat × Nat)) (S : AS) (idx pc : Nat) : Option qSu :=
  match S.2.1.2, wfs.find? (fun f => f.1 == idx) with
  | a :: stk, some f => if a.1 == 3 && qrg D S.2.2 a.2.1 == some qWR then some [(((qfr S.1 (qwiv f.2)).1, (S.2.1.1, (qfr S.1 (qwiv f.2)).2 :: stk), S.2.2), pc + 3)] else none
  | _, _ => none
theorem q_wm : ∀ n, n < 26 → qIn (0, 1) (kWm.getD n 0).toInt := by
  have : ∀ n, n < 26 → (decide (0 ≤ (kWm.getD n 0).toInt) && decide ((kWm.getD n 0).toInt ≤ 1)) = true := by decide +kernel
  intro n hn
  have h := this n hn
  simp only [Bool.and_eq_true, decide_eq_true_eq] at h
  exact h
theorem q_wv : ∀ n, n < 26 → qIn (-7, 16) (kWv.getD n 0).toInt := by
  have : ∀ n, n < 26 → (decide (-7 ≤ (kWv.getD n 0).toInt) && decide ((kWv.getD n 0).toInt ≤ 16)) = true := by decide +kernel
  intro n hn
  have h := this n hn
  simp only [Bool.and_eq_true, decide_eq_true_eq] at h
  exact h
theorem q_rgW {D : qWd} (hD : qD D) {γ : kΓ} {adr : List Nat} {σ : qσ} {ρ : qρ} {M : qM} {ws : va_W} (hH : qsM D γ adr σ ρ M ws) {n a : Nat} (hg : qrg D M n = some qWR) (ha : ρ n = some a) : ∃ i, i < 26 ∧ a = qwad γ i := by
  have := q_inR hD hH hg ha
  rcases this with ⟨-, h⟩ | ⟨q, h1, -⟩
  · exact h
  · exact absurd h1 (hD.2.2.2 q)
theorem qs_getwG {x : qCx} (hB : qB x) {D : qWd} (eD : qxD x = D) (hD : qD D) {wfs : List (Nat × Nat)} (hwf : ∀ f ∈ wfs, qwfk (qxown x) f) {S : AS} {idx pc : Nat} {L : qSu} (hs : qs_getw D wfs S idx pc = some L) (hdc : qdc x pc (.getfield idx, 3)) (h : qOk x L) : qG x S pc := by
  obtain ⟨γ, p, l, e, R, s, m, args, below, meth, c, Q, ⟨cc, nL', own⟩, A, D', adr, X, ms', w0, σe⟩ := x
  simp only [qxD] at eD
  subst eD
  obtain ⟨N, ⟨loc, stk⟩, M⟩ := S
  unfold qs_getw at hs
  split at hs
  · rename_i a stk' f heq hf
    simp only at heq
    subst heq
    split at hs
    · rename_i ha
      simp only [Bool.and_eq_true, beq_iff_eq] at ha
      cases hs
      have hG := qOk1 h
      obtain ⟨host, hk⟩ := hwf f (List.mem_of_find?_eq_some hf)
      have hfi := List.find?_some hf
      simp only [beq_iff_eq] at hfi
      intro σ ρ lv st ls ws H locs hw hl hS
      obtain ⟨h1, h2, h3, h4, h5, h6⟩ := hS
      match st, h2.2 with
      | v0 :: st, ⟨hra, hst⟩ =>
      obtain ⟨b, rfl, hb⟩ := q_rfv hra ha.1
      obtain ⟨i, hi, rfl⟩ := q_rgW hD h3 ha.2 hb
      have hz := k_zw hB
      have go : ∀ y : Int32, qIn (qwiv f.2) y.toInt → qWp (γ, p, l, e, R, s, m, args, below, meth, c, Q, (cc, nL', own), A, D', adr, X, ms', w0, σe) H locs (pc + 3) ls (.int y :: st) := by
        intro y hy
        obtain ⟨σ', s1, s2, s3⟩ := q_fr (ρ := ρ) h1 hy
        have hF := h2.mono s1 (fun _ _ h => h)
        exact hG σ' ρ lv (.int y :: st) ls ws H locs hw hl ⟨s2, ⟨hF.1, s3, hF.2.2⟩, h3.monoσ s1, h4, h5, fun v x hv => s1 v x (h6 v x hv)⟩
      rw [hfi] at hk
      rcases hk with ⟨k0, hk⟩ | ⟨k0, hk⟩
      · rw [k0] at go
        exact k_wordN hB hw hz.2.2.1 hi hk hdc (go _ (q_wm i hi))
      · rw [k0] at go
        exact k_wordN hB hw hz.2.2.2.1 hi hk hdc (go _ (q_wv i hi))
    · cases hs
  · cases hs
/-- switches -/
def qbr (S : AS) (a : AV) (stk : List AV) (pc : Nat) (iv : qIv) (off : Int) : qSu := (qnar S.1 a iv).toList.map (fun N => ((N, (S.2.1.1, stk), S.2.2), ((pc : Int) + off).toNat))
def qs_tsw (S : AS) (dflt lo hi : Int) (offs : List Int) (pc : Nat) : Option qSu :=
  match S.2.1.2 with
  | a :: stk => if qint a && (qiv S.1 a).isSome && qle 0 ((pc : Int) + dflt) && offs.all (fun o => qle 0 ((pc : Int) + o)) && decide ((offs.length : Int) = hi - lo + 1) then
      some (qbr S a stk pc (i32lo, lo - 1) dflt ++ (qbr S a stk pc (hi + 1, i32hi) dflt ++ (List.range offs.length).flatMap (fun j : Nat => qbr S a stk pc (lo + (j : Int), lo + (j : Int)) (offs.getD j 0)))) else none
  | _ => none
theorem q_br {x : qCx} {S : AS} {a : AV} {stk : List AV} {pc : Nat} {iv : qIv} {off : Int} {L : qSu} (hL : ∀ y ∈ qbr S a stk pc iv off, y ∈ L) (h : qOk x L) {σ : qσ} {ρ : qρ} {lv : List (Nat × Value)} {st st0 : List Value} {ls : Array Slot} {ws : va_W} {H : Heap} {locs : List Loc} (hw : qkW x ws H locs) (hl : qlv x ls lv)
    (hS : qS x S σ ρ lv st0 ws) (hst : F2 (qR σ ρ) stk st) {y : Int32} (ha : qR σ ρ a (.int y)) (hd : (qiv S.1 a).isSome = true) (hy : qIn iv y.toInt) : qWp x H locs ((pc : Int) + off).toNat ls st := by
  obtain ⟨γ, p, l, e, R, s, m, args, below, meth, c, Q, ⟨cc, nL', own⟩, A, D, adr, X, ms, w0, σe⟩ := x
  obtain ⟨N', e1, h1⟩ := q_nar hS.1 ha hy hd
  have hG := h ((N', (S.2.1.1, stk), S.2.2), ((pc : Int) + off).toNat) (hL _ (by unfold qbr; rw [e1]; simp))
  exact hG σ ρ lv st ls ws H locs hw hl ⟨h1, ⟨hS.2.1.1, hst⟩, hS.2.2⟩
theorem qs_tswG {x : qCx} (hB : qB x) {S : AS} {dflt lo hi : Int} {offs : Array Int} {len pc : Nat} {L : qSu} (hs : qs_tsw S dflt lo hi offs.toList pc = some L) (hdc : qdc x pc (.tableswitch dflt lo hi offs, len)) (h : qOk x L) : qG x S pc := by
  obtain ⟨γ, p, l, e, R, s, m, args, below, meth, c, Q, ⟨cc, nL', own⟩, A, D, adr, X, ms, w0, σe⟩ := x
  obtain ⟨N, ⟨loc, stk⟩, M⟩ := S
  unfold qs_tsw at hs
  split at hs
  · rename_i a stk' heq
    simp only at heq
    subst heq
    split at hs
    · rename_i hc
      simp only [Bool.and_eq_true, qle, decide_eq_true_eq, List.all_eq_true] at hc
      obtain ⟨⟨⟨⟨c1, c2⟩, c3⟩, c4⟩, c5⟩ := hc
      cases hs
      intro σ ρ lv st ls ws H locs hw hl hS
      have hS' := hS
      obtain ⟨h1, h2, h3, h4, h5, h6⟩ := hS
      match st, h2.2 with
      | v0 :: st, ⟨hra, hst⟩ =>
      obtain ⟨y, rfl⟩ := q_int hra c1
      have r := q_rng y
      by_cases b1 : y.toInt < lo
      · refine lv_tableOut hB.1 hB.2.1 hdc (.inl b1) (tgt := ((pc : Int) + dflt).toNat) (by omega) ?_
        exact q_br (fun z hz => List.mem_append_left _ hz) h hw hl hS' hst hra c2 ⟨r.1, by show _ ≤ lo - 1; omega⟩
      · by_cases b2 : hi < y.toInt
        · refine lv_tableOut hB.1 hB.2.1 hdc (.inr b2) (tgt := ((pc : Int) + dflt).toNat) (by omega) ?_
          exact q_br (fun z hz => List.mem_append_right _ (List.mem_append_left _ hz)) h hw hl hS' hst hra c2 ⟨by show hi + 1 ≤ _; omega, r.2⟩
        · have hj : (y.toInt - lo).toNat < offs.toList.length := by omega
          have he : offs.toList[(y.toInt - lo).toNat]? = some (offs.toList.getD (y.toInt - lo).toNat 0) := by
            rw [List.getElem?_eq_getElem hj, List.getD_eq_getElem?_getD, List.getElem?_eq_getElem hj]; rfl
          have h0 := c4 _ (List.mem_of_getElem? he)
          refine lv_tableIn hB.1 hB.2.1 hdc b1 b2 (off := offs.toList.getD (y.toInt - lo).toNat 0) (by rw [← he]; simp) (tgt := ((pc : Int) + offs.toList.getD (y.toInt - lo).toNat 0).toNat) (by omega) ?_
          refine q_br (iv := (lo + ((y.toInt - lo).toNat : Int), lo + ((y.toInt - lo).toNat : Int))) (fun z hz => List.mem_append_right _ (List.mem_append_right _ (List.mem_flatMap.mpr ⟨(y.toInt - lo).toNat, List.mem_range.mpr hj, hz⟩))) h hw hl hS' hst hra c2 ?_
          simp only [qIn]; omega
    · cases hs
  · cases hs
def qs_lsw (S : AS) (dflt : Int) (ps : List (Int × Int)) (pc : Nat) : Option qSu :=
  match S.2.1.2 with
  | a :: stk => if qint a && (qiv S.1 a).isSome && qle 0 ((pc : Int) + dflt) && ps.all (fun o => qle 0 ((pc : Int) + o.2)) && (ps.zip (ps.drop 1)).all (fun (a, next) => a.1 < next.1) then
      some (qbr S a stk pc (i32lo, i32hi) dflt ++ ps.flatMap (fun o => qbr S a stk pc (o.1, o.1) o.2)) else none
  | _ => none
theorem q_lsw (d k : Int) : ∀ ps : List (Int × Int), Op.lookupswitch.offset ps d k = d ∨ ∃ o, (k, o) ∈ ps ∧ Op.lookupswitch.offset ps d k = o
  | [] => .inl rfl
  | (a, o) :: r => by
    rw [Op.lookupswitch.offset_cons]
    by_cases h : a = k
    · rw [if_pos h]; exact .inr ⟨o, by rw [← h]; exact List.mem_cons_self, rfl⟩
    · rw [if_neg h]
      rcases q_lsw d k r with h1 | ⟨o', h1, h2⟩
      · exact .inl h1
      · exact .inr ⟨o', List.mem_cons_of_mem _ h1, h2⟩
theorem qs_lswG {x : qCx} (hB : qB x) {S : AS} {dflt : Int} {ps : Array (Int × Int)} {len pc : Nat} {L : qSu} (hs : qs_lsw S dflt ps.toList pc = some L) (hdc : qdc x pc (.lookupswitch dflt ps, len)) (h : qOk x L) : qG x S pc := by
  obtain ⟨γ, p, l, e, R, s, m, args, below, meth, c, Q, ⟨cc, nL', own⟩, A, D, adr, X, ms, w0, σe⟩ := x
  obtain ⟨N, ⟨loc, stk⟩, M⟩ := S
  unfold qs_lsw at hs
  split at hs
  · rename_i a stk' heq
    simp only at heq
    subst heq
    split at hs
    · rename_i hc
      rw [Bool.and_eq_true] at hc
      obtain ⟨hc, c5⟩ := hc
      simp only [Bool.and_eq_true, qle, decide_eq_true_eq, List.all_eq_true] at hc
      obtain ⟨⟨⟨c1, c2⟩, c3⟩, c4⟩ := hc
      cases hs
      intro σ ρ lv st ls ws H locs hw hl hS
      have hS' := hS
      obtain ⟨h1, h2, h3, h4, h5, h6⟩ := hS
      match st, h2.2 with
      | v0 :: st, ⟨hra, hst⟩ =>
      obtain ⟨y, rfl⟩ := q_int hra c1
      rcases q_lsw dflt y.toInt ps.toList with ho | ⟨o, ho1, ho⟩
      · refine lv_lookup hB.1 hB.2.1 hdc c5 ho (tgt := ((pc : Int) + dflt).toNat) (by omega) ?_
        exact q_br (fun z hz => List.mem_append_left _ hz) h hw hl hS' hst hra c2 (q_rng y)
      · have h0 := c4 _ ho1
        simp only at h0
        refine lv_lookup hB.1 hB.2.1 hdc c5 ho (tgt := ((pc : Int) + o).toNat) (by omega) ?_
        refine q_br (iv := (y.toInt, y.toInt)) (fun z hz => List.mem_append_right _ (List.mem_flatMap.mpr ⟨_, ho1, hz⟩)) h hw hl hS' hst hra c2 ?_
        simp only [qIn]; omega
    · cases hs
  · cases hs

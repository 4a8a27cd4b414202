/-! a call behind which something else holds -/
def qSem2 (γ : kΓ) (l : Launch) (D : qWd) (X : va_W → Prop) (X' : Option Value → va_W → Prop) (MT : List qMt) (c : qCon) : Prop :=
  ∃ y, MT[c.1.1]? = some y ∧ ∀ (adr : List Nat) (ws : va_W) (av : List Value), qPre D γ X c adr ws av → kM γ l y.1 y.2.1 y.2.2.1 y.2.2.2 { frames := c.1.2.1, cells := 0, slots := 0, locals := c.1.2.2 } av ws (fun r w1 => qPost D γ (X' r) c adr ws av r w1)
def qGX (x : qCx) (X' : Option Value → va_W → Prop) (S : AS) (pc : Nat) : Prop := ∀ (σ : qσ) (ρ : qρ) (lv : List (Nat × Value)) (r : Option Value) (st : List Value) (ls : Array Slot) (ws : va_W) (H : Heap) (locs : List Loc), qkW x ws H locs → qlv x ls lv → (qsN (qxD x) σ S.1 ∧ qsF σ ρ S.2.1 lv (r.toList ++ st) ∧ qsM (qxD x) x.1 (qxadr x) σ ρ S.2.2 ws ∧ X' r ws ∧ qK (qxD x) (qxms x) (qxw0 x) ws ∧ qle1 (qxσ x) σ) → qWp x H locs pc ls (r.toList ++ st)
theorem qs_callX {x : qCx} {X' : Option Value → va_W → Prop} (hB : qB x) {D : qWd} (eD : qxD x = D) (hD : qD D) {ms : qMods} (ems : qxms x = ms) {B : List qCon} {MT : List qMt} (hcon : ∀ c ∈ B, qSem2 x.1 x.2.2.1 D x.2.2.2.2.2.2.2.2.2.2.2.2.2.2.2.2.1 X' MT c) {cls : List qCl} (hcl : ∀ k ∈ cls, qlk4 (qxown x) MT k) {fr lc : Nat} (hR : fr ≤ x.2.2.2.2.1.frames ∧ lc ≤ x.2.2.2.2.1.locals)
    {virt : Bool} {S : AS} {idx pc : Nat} {L : qSu} (hs : qs_call D ms B cls MT fr lc virt S idx pc = some L) (hdc : (virt = true ∧ qdc x pc (.invokevirtual idx, 3)) ∨ (virt = false ∧ qdc x pc (.invokestatic idx, 3))) (h : ∀ y ∈ L, qGX x X' y.1 y.2) : qG x S pc := by
  obtain ⟨γ, p, l, e, R, s, m, args, below, meth, c, Q, ⟨cc, nL', own⟩, A, D', adr, X, ms', w0, σe⟩ := x
  simp only [qxD] at eD
  simp only [qxms] at ems
  simp only at hcon
  subst eD
  subst ems
  obtain ⟨N, ⟨loc, stk⟩, M⟩ := S
  unfold qs_call at hs
  split at hs
  · rename_i k hk
    split at hs
    · rename_i hc
      simp only [Bool.and_eq_true, Nat.ble_eq] at hc
      obtain ⟨⟨⟨c1, c2⟩, c3⟩, c4⟩ := hc
      split at hs
      · rename_i y hy
        obtain ⟨con, hcB, hs⟩ := q_try hs
        unfold qtry1 at hs
        split at hs
        · rename_i hc
          simp only [Bool.and_eq_true, Nat.ble_eq, beq_iff_eq] at hc
          obtain ⟨⟨⟨⟨d1, d2⟩, d3⟩, d4⟩, d5⟩ := hc
          split at hs
          · rename_i z hz
            split at hs
            · rename_i hrel
              rw [List.all_eq_true] at hrel
              have hkf := List.find?_some hk
              simp only [Bool.and_eq_true, beq_iff_eq] at hkf
              obtain ⟨hki, hkv⟩ := hkf
              generalize hn0 : qna k virt = n0 at *
              intro σ ρ lv st ls ws H locs hw hl hS
              obtain ⟨h1, h2, h3, h4, h5, h6⟩ := hS
              have h3' := q_clr hD h1 h3 hw.2.1.1
              have hex : (qclr D' N M).2.2 = [] := by simpa using c3
              obtain ⟨σ1, ρ1, s1, r1, n1, m1, e1, f1⟩ := q_mat hD hw.2.1.1 h1 h3' hz
              have hFst := h2.2
              have hAs : F2 (qR σ ρ) (stk.take n0).reverse (st.take n0).reverse := (hFst.take n0).reverse
              have hrest : F2 (qR σ ρ) (stk.drop n0) (st.drop n0) := hFst.drop n0
              have hlen : st.length = stk.length := (F2.len hFst).symm
              have hH0 : qH D' γ adr (fun _ _ => False) ws := by
                refine ⟨h3.2.2.2.2.1, h3.2.2.2.2.2.1, fun q g a c hg hc => ?_⟩
                obtain ⟨r, r1, r2, r3⟩ := h3'.2.2.2.2.2.2 q g a c hg hc
                refine ⟨r, r1, r2, fun k hk => (r3 k hk).elim (fun ⟨n', z1, _⟩ => ?_) .inr⟩
                rw [hex] at z1; cases z1
              have hpre : qPre D' γ X con adr ws (st.take n0).reverse := by
                refine ⟨hH0, h4, q_tks hD h1 h3' hAs d4, fun f hf => ?_, fun r hr => ?_⟩
                · obtain ⟨k', hk'⟩ := List.getElem?_of_mem hf
                  obtain ⟨a, -, x, x1, x2, -⟩ := F2.get2 f1 hk'
                  exact ⟨_, x1, x2⟩
                · have hq := hrel r hr
                  unfold qrok at hq
                  split at hq
                  · rename_i a b ha hb
                    obtain ⟨fa, ga, xa, xa1, -, xa3⟩ := F2.idx f1 ha
                    obtain ⟨fb, gb, xb, xb1, -, xb3⟩ := F2.idx f1 hb
                    rw [Bool.and_eq_true, Bool.and_eq_true] at hq
                    exact ⟨_, _, by rw [ga]; exact xa1, by rw [gb]; exact xb1, q_ge n1 6 xa3 xb3 hq.2⟩
                  · cases hq
              obtain ⟨y', hy', hsem⟩ := hcon con hcB
              rw [d1, hy] at hy'
              cases hy'
              have hM := hsem adr ws _ hpre
              have hRR : con.1.2.1 + 1 ≤ R.frames ∧ 8 + (y.2.2.1 + 11) + con.1.2.2 ≤ R.locals := ⟨Nat.le_trans d2 hR.1, Nat.le_trans d3 hR.2⟩
              have hW8 : ((st.drop n0).map fun v => v.category).sum ≤ 8 := by rw [q_wt hrest]; exact c2
              have kk : ∀ (r : Option Value) (w1 : va_W) (H1 : Heap) (locs1 : List Loc), qPost D' γ (X' r) con adr ws (st.take n0).reverse r w1 → kW γ A w1 s H1 locs1 → W p l e R s m args below meth c H1 locs1 0 0 Q (F0 m (pc + 3) ls (r.toList ++ st.drop n0)) := by
                intro r w1 H1 locs1 hp hw1
                obtain ⟨p1, p2, p3, t, t1, t2⟩ := hp
                obtain ⟨Lt, l1, l2⟩ := q_cat hs (qalts D' z.1 (qdm D' z.2.1 con.2.2.2.2.2) loc (stk.drop n0) (stk.take n0).reverse z.2.2 pc t) (List.mem_map.mpr ⟨t, t1, rfl⟩)
                have m2 := q_dm hD m1 hw.2.1.1 p1 p3
                obtain ⟨N', M', ra, σ2, ρ2, g0, g1, g2, g3, g4, g5⟩ := q_alts hD hw1.2.1.1 n1 m2 (F2.mono (fun _ _ h => h.mono s1 r1) hAs) f1 t2 l1
                have hF := h2.mono (s1.trans g1) (r1.trans g2)
                exact h _ (l2 _ g0) σ2 ρ2 lv r (st.drop n0) ls w1 H1 locs1 hw1 hl ⟨g3, ⟨hF.1, F2.append g5 (F2.mono (fun _ _ h => h.mono (s1.trans g1) (r1.trans g2)) hrest)⟩, g4, p2, q_keepT h3 p1 d5 h5 p3, fun v x hv => g1 v x (s1 v x (h6 v x hv))⟩
              have hlk := hcl k (List.mem_of_find?_eq_some hk)
              have hsplit : st = (st.take n0).reverse.reverse ++ st.drop n0 := by rw [List.reverse_reverse, List.take_append_drop]
              have hnr : k.1 = idx := hki
              cases virt with
              | true =>
                simp only [qna, if_true] at hn0
                have hdg : decode cc pc = .ok (.invokevirtual k.1, 3) := by
                  rcases hdc with ⟨-, h9⟩ | ⟨h9, -⟩
                  · rw [hnr]; exact h9
                  · cases h9
                simp only [Bool.not_true, Bool.false_or] at c4
                unfold qrcv at c4
                have hne : ∃ b As, (st.take n0).reverse = .ref b :: As ∧ As.length = k.2.2.2.1 ∧ ((k.2.1 = 4 ∧ ∃ i, i < 26 ∧ b = γ.2.2.2.2 i) ∨ (¬ k.2.1 = 4 ∧ ∃ (q : Nat) (fs : List Value), ws[q]? = some (b, .inr (k.2.2.2.2, fs)))) := by
                  split at c4
                  · rename_i a as' hst
                    rw [hst] at hAs
                    match hv : (st.take n0).reverse, hAs with
                    | v :: As, ⟨hr, _⟩ =>
                    simp only [Bool.and_eq_true, beq_iff_eq] at c4
                    obtain ⟨c4a, c4b⟩ := c4
                    obtain ⟨b, rfl, hb⟩ := q_rfv hr c4a
                    refine ⟨b, As, rfl, ?_, ?_⟩
                    · have : (st.take n0).reverse.length = n0 := by rw [List.length_reverse, List.length_take]; omega
                      rw [hv] at this
                      simp at this
                      omega
                    · split at c4b
                      · rename_i g hg
                        split at c4b
                        · rename_i h44
                          simp only [beq_iff_eq] at h44 c4b
                          subst c4b
                          exact .inl ⟨h44, q_rgW hD h3' hg hb⟩
                        · rename_i h44
                          have h44 : ¬ k.2.1 = 4 := by simpa using h44
                          simp only [Bool.and_eq_true, Bool.not_eq_true', beq_eq_false_iff_ne, ne_eq] at c4b
                          obtain ⟨u1, u2⟩ := c4b
                          obtain ⟨q, cl, r', g1, g2, g3, g4, g5⟩ := q_cell hD h3' hg u1 hb
                          rw [g3] at u2
                          simp only [beq_iff_eq] at u2
                          obtain ⟨fs, rfl, -⟩ := q_obj g4 u2
                          exact .inr ⟨h44, q, fs, g2⟩
                      · cases c4b
                  · cases c4
                obtain ⟨b, As, hav, hal, hrc⟩ := hne
                have hst0 : st = As.reverse ++ .ref b :: st.drop n0 := by
                  have := hsplit
                  rw [hav, List.reverse_cons, List.append_assoc] at this
                  exact this
                rw [hav] at hM kk
                rcases hrc with ⟨k4, i, hi, rfl⟩ | ⟨k4, q, fs, hq⟩
                · rcases hlk with hlk | ⟨-, y2, e1, e2, e3, e4, e5, e6, e7, e8⟩
                  · obtain ⟨_, _, _, _, _, hkk⟩ := hlk
                    exfalso
                    rcases hkk with ⟨z, _⟩ | ⟨z, _⟩ | ⟨z, _⟩ | ⟨z, _⟩ <;> omega
                  · rw [hy] at e1
                    cases e1
                    exact k_VO (wr := []) k.2.2.2.1 e6 e7 e8 e3 e4 e5 hB hw hM hRR ⟨Nat.zero_le _, Nat.zero_le _⟩ hl.1 hal e2 hi hst0 hW8 (List.range ws.length) [] (q_nd _) (q_all ws) rfl rfl (fun _ h => by cases h) hdg (fun r w1 H1 locs1 hp hw1 => kk r w1 H1 locs1 hp hw1)
                · rcases hlk with hlk | ⟨z, -⟩
                  · refine k_callG hB hw hlk hy hM hRR hl.1 hal hW8 (.inl ⟨?_, b, q, fs, rfl, hq, hst0⟩) (.inl ⟨?_, hdg⟩) kk
                    · unfold qvirt at hkv
                      simp only [Bool.or_eq_true, beq_iff_eq] at hkv
                      omega
                    · unfold qvirt at hkv
                      simp only [Bool.or_eq_true, beq_iff_eq] at hkv
                      omega
                  · exact absurd z k4
              | false =>
                have hn0' : n0 = k.2.2.2.1 := by simp [qna] at hn0; exact hn0.symm
                have hdg : decode cc pc = .ok (.invokestatic k.1, 3) := by
                  rcases hdc with ⟨h9, -⟩ | ⟨-, h9⟩
                  · cases h9
                  · rw [hnr]; exact h9
                have hkv' : ¬ k.2.1 = 0 ∧ ¬ k.2.1 = 2 ∧ ¬ k.2.1 = 4 := by
                  unfold qvirt at hkv
                  simp at hkv
                  omega
                rcases hlk with hlk | ⟨z, -⟩
                · have hk13 : k.2.1 = 1 ∨ k.2.1 = 3 := by
                    obtain ⟨_, _, _, _, _, hkk⟩ := hlk
                    rcases hkk with ⟨z, _⟩ | ⟨z, _⟩ | ⟨z, _⟩ | ⟨z, _⟩ <;> omega
                  refine k_callG hB hw hlk hy hM hRR hl.1 (As := (st.take n0).reverse) ?_ hW8 (.inr ⟨hk13, rfl, hsplit⟩) (.inr ⟨hk13, hdg⟩) kk
                  rw [List.length_reverse, List.length_take]
                  omega
                · exact absurd z hkv'.2.2
            · cases hs
          · cases hs
        · cases hs
      · cases hs
    · cases hs
  · cases hs
theorem q_segC {γ : kΓ} {p : Program} {l : Launch} {e : Env} {R : Room} {s : State} {m : MethodId} {args : Array Value} {below : List Frame} {meth : Method} {cd : Code} {Q : State → Prop} {cc : ByteArray} {nL : Nat} {own : String} {A : Nat → Prop} {D : qWd} {adr : List Nat} {X : va_W → Prop} {ms : qMods} {w0 : va_W}
    {tb : qTb} {MT : List qMt} {B : List qCon} {fr lc : Nat} {T : qPg} {n0 n1 : Nat} {lk : List Nat} {cuts : List qCut} {σ : qσ}
    (hB : kC γ p s m args cd cc nL own A) (hD : qD D) (htb : qTbk own MT tb) {X' : Option Value → va_W → Prop} (hcon : ∀ c ∈ B, qSem2 γ l D X X' MT c) (hR : fr ≤ R.frames ∧ lc ≤ R.locals) (hT : qPgk T cc = true)
    {S : AS} {pc idx ln : Nat} (hi : qat T pc = some (.invokevirtual idx, ln)) (hs : (match qs_call D ms B tb.2.1 MT fr lc true S idx pc with
      | some L => ln == 3 && L.all (fun y => cuts.any (fun k => k.1 == y.2 && qcchk D n0 lk n1 none y.1 k))
      | none => false) = true)
    (hk : ∀ k ∈ cuts, ∀ (σ2 : qσ) (ρ2 : qρ) (lv2 : List (Nat × Value)) (r : Option Value) (st2 : List Value) (ls2 : Array Slot) (ws2 : va_W) (H2 : Heap) (locs2 : List Loc), kW γ A ws2 s H2 locs2 → lv_has ls2 nL lv2 → qsN D σ2 k.2.1.1 → qsF σ2 ρ2 k.2.1.2.1 lv2 (r.toList ++ st2) → qsM D γ adr σ2 ρ2 k.2.1.2.2 ws2 → X' r ws2 → qK D ms w0 ws2 → (∀ v z, v < n0 → σ v = some z → σ2 v = some z) → W p l e R s m args below meth cd H2 locs2 0 0 Q (F0 m k.1 ls2 (r.toList ++ st2)))
    {ρ : qρ} {lv : List (Nat × Value)} {st : List Value} {ls : Array Slot} {ws : va_W} {H : Heap} {locs : List Loc} (hw : kW γ A ws s H locs) (hl : lv_has ls nL lv) (hN : qsN D σ S.1) (hF : qsF σ ρ S.2.1 lv st) (hM : qsM D γ adr σ ρ S.2.2 ws) (hx : X ws) (hK : qK D ms w0 ws) : W p l e R s m args below meth cd H locs 0 0 Q (F0 m pc ls st) := by
  split at hs
  · rename_i L hL
    simp only [Bool.and_eq_true, beq_iff_eq, List.all_eq_true] at hs
    obtain ⟨h3, hs⟩ := hs
    subst h3
    have hG : qG (γ, p, l, e, R, s, m, args, below, meth, cd, Q, (cc, nL, own), A, D, adr, X, ms, w0, σ) S pc := by
      refine qs_callX (x := (γ, p, l, e, R, s, m, args, below, meth, cd, Q, (cc, nL, own), A, D, adr, X, ms, w0, σ)) hB rfl hD rfl hcon htb.2.1 hR hL (.inl ⟨rfl, q_pgk hT hi⟩) ?_
      intro y hy σ2 ρ2 lv2 r st2 ls2 ws2 H2 locs2 hw2 hl2 hS2
      obtain ⟨g1, g2, g3, g4, g5, g6⟩ := hS2
      have hc := hs y hy
      rw [List.any_eq_true] at hc
      obtain ⟨k', hk', hc⟩ := hc
      simp only [Bool.and_eq_true, beq_iff_eq] at hc
      obtain ⟨hpc, hc'⟩ := hc
      unfold qcchk at hc'
      simp only [Bool.and_eq_true] at hc'
      obtain ⟨lv', f1, f2, f3, f4, f5⟩ := q_sub1 hD g1 g2 g3 hw2.2.1.1 hc'.1
      show W p l e R s m args below meth cd H2 locs2 0 0 Q (F0 m y.2 ls2 (r.toList ++ st2))
      rw [← hpc]
      refine hk k' hk' _ _ lv' r st2 ls2 ws2 H2 locs2 hw2 ⟨hl2.1, hl2.2.1, fun q hq => hl2.2.2 q (f1 q hq)⟩ f2 f3 f4 g4 g5 ?_
      intro v z hv hz
      rw [f5 v hv]
      exact g6 _ _ hz
    exact hG σ ρ lv st ls ws H locs hw hl ⟨hN, hF, hM, hx, hK, qle1.refl _⟩
  · cases hs
theorem q_segS {γ : kΓ} {p : Program} {l : Launch} {e : Env} {R : Room} {s : State} {m : MethodId} {args : Array Value} {below : List Frame} {meth : Method} {cd : Code} {Q : State → Prop} {cc : ByteArray} {nL : Nat} {own : String} {A : Nat → Prop} {D : qWd} {adr : List Nat} {X : va_W → Prop} {ms : qMods} {w0 : va_W}
    {tb : qTb} {MT : List qMt} {B : List qCon} {fr lc : Nat} {T : qPg} {n0 n1 : Nat} {lk : List Nat} {cuts : List qCut} {σ : qσ}
    (hB : kC γ p s m args cd cc nL own A) (hD : qD D) (htb : qTbk own MT tb) {X' : Option Value → va_W → Prop} (hcon : ∀ c ∈ B, qSem2 γ l D X X' MT c) (hR : fr ≤ R.frames ∧ lc ≤ R.locals) (hT : qPgk T cc = true)
    {S : AS} {pc idx ln : Nat} (hi : qat T pc = some (.invokestatic idx, ln)) (hs : (match qs_call D ms B tb.2.1 MT fr lc false S idx pc with
      | some L => ln == 3 && L.all (fun y => cuts.any (fun k => k.1 == y.2 && qcchk D n0 lk n1 none y.1 k))
      | none => false) = true)
    (hk : ∀ k ∈ cuts, ∀ (σ2 : qσ) (ρ2 : qρ) (lv2 : List (Nat × Value)) (r : Option Value) (st2 : List Value) (ls2 : Array Slot) (ws2 : va_W) (H2 : Heap) (locs2 : List Loc), kW γ A ws2 s H2 locs2 → lv_has ls2 nL lv2 → qsN D σ2 k.2.1.1 → qsF σ2 ρ2 k.2.1.2.1 lv2 (r.toList ++ st2) → qsM D γ adr σ2 ρ2 k.2.1.2.2 ws2 → X' r ws2 → qK D ms w0 ws2 → (∀ v z, v < n0 → σ v = some z → σ2 v = some z) → W p l e R s m args below meth cd H2 locs2 0 0 Q (F0 m k.1 ls2 (r.toList ++ st2)))
    {ρ : qρ} {lv : List (Nat × Value)} {st : List Value} {ls : Array Slot} {ws : va_W} {H : Heap} {locs : List Loc} (hw : kW γ A ws s H locs) (hl : lv_has ls nL lv) (hN : qsN D σ S.1) (hF : qsF σ ρ S.2.1 lv st) (hM : qsM D γ adr σ ρ S.2.2 ws) (hx : X ws) (hK : qK D ms w0 ws) : W p l e R s m args below meth cd H locs 0 0 Q (F0 m pc ls st) := by
  split at hs
  · rename_i L hL
    simp only [Bool.and_eq_true, beq_iff_eq, List.all_eq_true] at hs
    obtain ⟨h3, hs⟩ := hs
    subst h3
    have hG : qG (γ, p, l, e, R, s, m, args, below, meth, cd, Q, (cc, nL, own), A, D, adr, X, ms, w0, σ) S pc := by
      refine qs_callX (x := (γ, p, l, e, R, s, m, args, below, meth, cd, Q, (cc, nL, own), A, D, adr, X, ms, w0, σ)) hB rfl hD rfl hcon htb.2.1 hR hL (.inr ⟨rfl, q_pgk hT hi⟩) ?_
      intro y hy σ2 ρ2 lv2 r st2 ls2 ws2 H2 locs2 hw2 hl2 hS2
      obtain ⟨g1, g2, g3, g4, g5, g6⟩ := hS2
      have hc := hs y hy
      rw [List.any_eq_true] at hc
      obtain ⟨k', hk', hc⟩ := hc
      simp only [Bool.and_eq_true, beq_iff_eq] at hc
      obtain ⟨hpc, hc'⟩ := hc
      unfold qcchk at hc'
      simp only [Bool.and_eq_true] at hc'
      obtain ⟨lv', f1, f2, f3, f4, f5⟩ := q_sub1 hD g1 g2 g3 hw2.2.1.1 hc'.1
      show W p l e R s m args below meth cd H2 locs2 0 0 Q (F0 m y.2 ls2 (r.toList ++ st2))
      rw [← hpc]
      refine hk k' hk' _ _ lv' r st2 ls2 ws2 H2 locs2 hw2 ⟨hl2.1, hl2.2.1, fun q hq => hl2.2.2 q (f1 q hq)⟩ f2 f3 f4 g4 g5 ?_
      intro v z hv hz
      rw [f5 v hv]
      exact g6 _ _ hz
    exact hG σ ρ lv st ls ws H locs hw hl ⟨hN, hF, hM, hx, hK, qle1.refl _⟩
  · cases hs
/-- what X looks at, slot by slot -/
def qdepS (D : qWd) (dp : qMods) (X : va_W → Prop) : Prop := ∀ ws w1 : va_W, ws.map Prod.fst = w1.map Prod.fst → (∀ (q g a a' : Nat) (c c' : va_E), D.1[q]? = some g → ws[q]? = some (a, c) → w1[q]? = some (a', c') → ∀ k, qmod dp g k = true → qrd c' k = qrd c k) → X ws → X w1
def qdis (ms dp : qMods) : Bool := ms.all (fun m => dp.all (fun d => !(d.1 == m.1 && Nat.ble d.2.1 m.2.2 && Nat.ble m.2.1 d.2.2)))
theorem q_dis {ms dp : qMods} (h : qdis ms dp = true) {g k : Nat} (hk : qmod dp g k = true) : qmod ms g k = false := by
  unfold qmod at hk ⊢
  rw [List.any_eq_true] at hk
  obtain ⟨d, d1, d2⟩ := hk
  rw [List.any_eq_false]
  intro m m1 m2
  unfold qdis at h
  rw [List.all_eq_true] at h
  have := h m m1
  rw [List.all_eq_true] at this
  have := this d d1
  simp only [Bool.and_eq_true, beq_iff_eq, Nat.ble_eq] at d2 m2
  simp only [Bool.not_eq_true', Bool.and_eq_false_iff, beq_eq_false_iff_ne, ne_eq] at this
  rcases this with (h1 | h1) | h1
  · exact h1 (by rw [d2.1.1, m2.1.1])
  · rw [Nat.ble_eq_true_of_le (by omega)] at h1; cases h1
  · rw [Nat.ble_eq_true_of_le (by omega)] at h1; cases h1
theorem q_upS {γ : kΓ} {l : Launch} {D : qWd} {X : va_W → Prop} {MT : List qMt} {c : qCon} {dp : qMods} (hX : qdepS D dp X) (hm : qdis c.2.2.2.2.2 dp = true) (h : qSem γ l D (fun _ => True) MT c) : qSem γ l D X MT c := by
  refine q_imp h rfl (fun adr ws av hp => ⟨hp.1, trivial, hp.2.2⟩) (fun adr ws av r w1 hp hq => ⟨hq.1, ?_, hq.2.2⟩)
  exact hX ws w1 (hp.1.1.trans hq.1.1.symm) (fun q g a a' c0 c1 hg h0 h1 k hk => hq.2.2.1 q g a c0 a' c1 hg h0 h1 k (q_dis hm hk)) hp.2.1
def qdep2 (D : qWd) (xr : List Nat) (dp : qMods) (X : va_W → Prop) : Prop := ∀ ws w1 : va_W, ws.map Prod.fst = w1.map Prod.fst → (∀ (q g a a' : Nat) (c c' : va_E), D.1[q]? = some g → ws[q]? = some (a, c) → w1[q]? = some (a', c') → ∀ k, g ∈ xr ∨ qmod dp g k = true → qrd c' k = qrd c k) → X ws → X w1
def qfar (ms : qMods) (xr : List Nat) (dp : qMods) : Bool := ms.all (fun m => !(xr.contains m.1)) && qdis ms dp
theorem q_far {ms : qMods} {xr : List Nat} {dp : qMods} (h : qfar ms xr dp = true) {g k : Nat} (hk : g ∈ xr ∨ qmod dp g k = true) : qmod ms g k = false := by
  unfold qfar at h
  rw [Bool.and_eq_true] at h
  rcases hk with hk | hk
  · unfold qmod
    rw [List.any_eq_false]
    intro m m1 m2
    have := List.all_eq_true.mp h.1 m m1
    simp only [Bool.and_eq_true, beq_iff_eq] at m2
    rw [m2.1.1] at this
    simp only [Bool.not_eq_true', List.contains_eq_mem, decide_eq_false_iff_not] at this
    exact this hk
  · exact q_dis h.2 hk
theorem q_up2 {γ : kΓ} {l : Launch} {D : qWd} {X : va_W → Prop} {MT : List qMt} {c : qCon} {xr : List Nat} {dp : qMods} (hX : qdep2 D xr dp X) (hm : qfar c.2.2.2.2.2 xr dp = true) (h : qSem γ l D (fun _ => True) MT c) : qSem γ l D X MT c := by
  refine q_imp h rfl (fun adr ws av hp => ⟨hp.1, trivial, hp.2.2⟩) (fun adr ws av r w1 hp hq => ⟨hq.1, ?_, hq.2.2⟩)
  exact hX ws w1 (hp.1.1.trans hq.1.1.symm) (fun q g a a' c0 c1 hg h0 h1 k hk => hq.2.2.1 q g a c0 a' c1 hg h0 h1 k (q_far hm hk)) hp.2.1
/-- and beside another -/
theorem q_fr2 {γ : kΓ} {l : Launch} {D : qWd} {X Z : va_W → Prop} {X' : Option Value → va_W → Prop} {MT : List qMt} {c : qCon} {xr : List Nat} {dp : qMods} (hZ : qdep2 D xr dp Z) (hm : qfar c.2.2.2.2.2 xr dp = true) (h : qSem2 γ l D X X' MT c) : qSem2 γ l D (fun w => X w ∧ Z w) (fun r w => X' r w ∧ Z w) MT c := by
  obtain ⟨y, hy, hs⟩ := h
  refine ⟨y, hy, fun adr ws av hp => k_imp (hs adr ws av ⟨hp.1, hp.2.1.1, hp.2.2⟩) (fun r w1 hq => ⟨hq.1, ⟨hq.2.1, ?_⟩, hq.2.2⟩)⟩
  exact hZ ws w1 (hp.1.1.trans hq.1.1.symm) (fun q g a a' c0 c1 hg h0 h1 k hk => hq.2.2.1 q g a c0 a' c1 hg h0 h1 k (q_far hm hk)) hp.2.1.2

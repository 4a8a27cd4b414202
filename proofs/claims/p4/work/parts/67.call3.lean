/-! the call -/
def qdm (D : qWd) (M : qM) (cm : qMods) : qM := (M.1, M.2.1.filter (fun e => match qrg D M e.1 with
  | some g => !(g == qWR) && !(if Nat.blt e.2.1 10000 then qmod cm g e.2.1 else cm.any (fun m => m.1 == g))
  | none => false), M.2.2)
def qcov (cm ms : qMods) : Bool := cm.all (fun m => ms.any (fun n => n.1 == m.1 && Nat.ble n.2.1 m.2.1 && Nat.ble m.2.2 n.2.2))
theorem q_cov {cm ms : qMods} (h : qcov cm ms = true) {g k : Nat} (hk : qmod ms g k = false) : qmod cm g k = false := by
  unfold qcov at h
  unfold qmod at hk ⊢
  rw [List.any_eq_false] at hk ⊢
  rw [List.all_eq_true] at h
  intro m hm hc
  have h1 := h m hm
  rw [List.any_eq_true] at h1
  obtain ⟨n, n1, n2⟩ := h1
  simp only [Bool.and_eq_true, beq_iff_eq, Nat.ble_eq] at n2 hc
  refine hk n n1 ?_
  simp only [Bool.and_eq_true, beq_iff_eq, Nat.ble_eq]
  omega
section QCK
variable {D : qWd} {γ : kΓ} {adr : List Nat}
theorem q_posn {σ : qσ} {ρ : qρ} {M : qM} {ws w1 : va_W} (hH : qsM D γ adr σ ρ M ws) (h1 : w1.map Prod.fst = adr) {q a : Nat} {c : va_E} (hc : ws[q]? = some (a, c)) : ∃ c1, w1[q]? = some (a, c1) := by
  have h2 := q_adr2 hH hc
  rw [← h1, List.getElem?_map, Option.map_eq_some_iff] at h2
  obtain ⟨⟨a', c1⟩, e1, e2⟩ := h2
  exact ⟨c1, by rw [e1]; simp only at e2; rw [e2]⟩
theorem q_dm (hD : qD D) {σ : qσ} {ρ : qρ} {M : qM} {ws w1 : va_W} (hH : qsM D γ adr σ ρ M ws) (hdis : ∀ (i j : Nat) (p q : Nat × va_E), ws[i]? = some p → ws[j]? = some q → p.1 = q.1 → i = j) {cm : qMods} (h1 : qH D γ adr (fun _ _ => False) w1) (hK : qK D cm ws w1) : qsM D γ adr σ ρ (qdm D M cm) w1 := by
  refine ⟨hH.1, hH.2.1, hH.2.2.1, fun n k av hm => ?_, h1.1, h1.2.1, fun q g a c hg hc => ?_⟩
  · unfold qdm at hm
    rw [List.mem_filter] at hm
    obtain ⟨q, a, c, v, ix, g1, g2, g3, g4, g5⟩ := hH.2.2.2.1 n k av hm.1
    have hb := hm.2
    simp only at hb
    split at hb
    · rename_i g hg
      simp only [Bool.and_eq_true, Bool.not_eq_true', beq_eq_false_iff_ne, ne_eq] at hb
      obtain ⟨q2, c2, r2, z1, z2, -⟩ := q_cell hD hH hg hb.1 g2
      have := hdis q2 q _ _ z2 g1 rfl
      subst this
      obtain ⟨c1, hc1⟩ := q_posn hH h1.1 g1
      have hmod : qmod cm g ix = false := by
        have hb2 := hb.2
        rcases g5 with ⟨h7, h8⟩ | ⟨h7, -⟩
        · rw [if_pos (Nat.blt_eq.mpr h7)] at hb2
          rw [h8]; exact hb2
        · rw [if_neg (by rw [Nat.blt_eq]; omega)] at hb2
          rw [List.any_eq_false] at hb2
          unfold qmod
          rw [List.any_eq_false]
          intro m hm9 hc9
          refine hb2 m hm9 ?_
          simp only [Bool.and_eq_true] at hc9
          exact hc9.1.1
      exact ⟨q2, a, c1, v, ix, hc1, g2, by rw [hK q2 g a c a c1 z1 g1 hc1 ix hmod]; exact g3, g4, g5⟩
    · cases hb
  · obtain ⟨r, r1, r2, r3⟩ := h1.2.2 q g a c hg hc
    exact ⟨r, r1, r2, fun k hk => (r3 k hk).elim (fun f => f.elim) .inr⟩
theorem q_keepT {σ : qσ} {ρ : qρ} {M : qM} {w0 ws w1 : va_W} (hH : qsM D γ adr σ ρ M ws) {cm ms : qMods} (h1 : qH D γ adr (fun _ _ => False) w1) (hcov : qcov cm ms = true) (hK0 : qK D ms w0 ws) (hK : qK D cm ws w1) : qK D ms w0 w1 := by
  intro q g a c a1 c1 hg h2 h3 k hk
  have hl : q < ws.length := by
    rw [hH.2.2.2.2.2.1]
    exact (List.getElem?_eq_some_iff.mp hg).1
  have h4 : ws[q]? = some (ws[q].1, ws[q].2) := List.getElem?_eq_getElem hl
  rw [hK q g _ _ a1 c1 hg h4 h3 k (q_cov hcov hk), hK0 q g a c _ _ hg h2 h4 k hk]
end QCK
def qtks (D : qWd) (N : qN) (M : qM) : List AV → List qTy → Bool
  | [], [] => true
  | a :: as, t :: ts => qtk D N M a t && qtks D N M as ts
  | _, _ => false
theorem q_tks {D : qWd} {γ : kΓ} {adr : List Nat} {σ : qσ} {ρ : qρ} {N : qN} {M : qM} {ws : va_W} (hD : qD D) (hN : qsN D σ N) (hH : qsM D γ adr σ ρ M ws) : ∀ {as : List AV} {ts : List qTy} {av : List Value}, F2 (qR σ ρ) as av → qtks D N M as ts = true → F2 (qvT D γ adr) ts av
  | [], [], [], _, _ => trivial
  | _ :: _, _ :: _, _ :: _, ⟨h1, h2⟩, h => by
    simp only [qtks, Bool.and_eq_true] at h
    exact ⟨q_tk hD hN hH h1 h.1, q_tks hD hN hH h2 h.2⟩
  | [], _ :: _, _, _, h => by simp [qtks] at h
  | _ :: _, [], _, _, h => by simp [qtks] at h
def qcat : List (Option qSu) → Option qSu
  | [] => some []
  | a :: r => (match a, qcat r with
    | some x, some y => some (x ++ y)
    | _, _ => none)
theorem q_cat : ∀ {l : List (Option qSu)} {L : qSu}, qcat l = some L → ∀ a ∈ l, ∃ x, a = some x ∧ ∀ y ∈ x, y ∈ L
  | [], _, _, a, ha => by cases ha
  | b :: r, L, h, a, ha => by
    unfold qcat at h
    split at h
    · rename_i x y hy
      cases h
      rcases List.mem_cons.mp ha with e | ha
      · subst e
        exact ⟨x, rfl, fun z hz => List.mem_append_left _ hz⟩
      · obtain ⟨x', e1, e2⟩ := q_cat hy a ha
        exact ⟨x', e1, fun z hz => List.mem_append_right _ (e2 z hz)⟩
    · cases h
def qrok (N : qN) (pa : List AV) (q : Nat × Nat × Int) : Bool := match pa[q.1]?, pa[q.2.1]? with
  | some a, some b => qint a && qint b && qge 6 N a b q.2.2
  | _, _ => false
def qtry1 (D : qWd) (ms : qMods) (fr lc nl m : Nat) (As : List AV) (N : qN) (M : qM) (loc : List (Nat × AV)) (rest : List AV) (pc : Nat) (c : qCon) : Option qSu :=
  if c.1.1 == m && Nat.ble (c.1.2.1 + 1) fr && Nat.ble (8 + (nl + 11) + c.1.2.2) lc && qtks D N M As c.2.1 && qcov c.2.2.2.2.2 ms then
    (match qmat D N M c.2.2.1 with
    | some z => if c.2.2.2.1.all (qrok z.1 z.2.2) then qcat (c.2.2.2.2.1.map (qalts D z.1 (qdm D z.2.1 c.2.2.2.2.2) loc rest As z.2.2 pc)) else none
    | none => none) else none
def qtry (D : qWd) (ms : qMods) (fr lc nl m : Nat) (As : List AV) (N : qN) (M : qM) (loc : List (Nat × AV)) (rest : List AV) (pc : Nat) : List qCon → Option qSu
  | [] => none
  | c :: B => (match qtry1 D ms fr lc nl m As N M loc rest pc c with
    | some L => some L
    | none => qtry D ms fr lc nl m As N M loc rest pc B)
theorem q_try {D : qWd} {ms : qMods} {fr lc nl m : Nat} {As : List AV} {N : qN} {M : qM} {loc : List (Nat × AV)} {rest : List AV} {pc : Nat} : ∀ {B : List qCon} {L : qSu}, qtry D ms fr lc nl m As N M loc rest pc B = some L → ∃ c ∈ B, qtry1 D ms fr lc nl m As N M loc rest pc c = some L
  | [], _, h => by cases h
  | c :: B, L, h => by
    unfold qtry at h
    split at h
    · rename_i L' h'
      cases h
      exact ⟨c, List.mem_cons_self, h'⟩
    · obtain ⟨c', h1, h2⟩ := q_try h
      exact ⟨c', List.mem_cons_of_mem _ h1, h2⟩
/-- is the receiver one of the class -/
def qrcv (D : qWd) (M : qM) (k : qCl) (As : List AV) : Bool := match As with
  | a :: _ => a.1 == 3 && (match qrg D M a.2.1 with
    | some g => if k.2.1 == 4 then g == qWR else !(g == qWR) && (match D.2.1[g]? with
      | some r => r.1 == 10 + k.2.2.2.2
      | none => false)
    | none => false)
  | [] => false
def qvirt (k : qCl) : Bool := k.2.1 == 0 || k.2.1 == 2 || k.2.1 == 4
def qna (k : qCl) (virt : Bool) : Nat := k.2.2.2.1 + (if virt then 1 else 0)
def qs_call (D : qWd) (ms : qMods) (B : List qCon) (cls : List qCl) (MT : List qMt) (fr lc : Nat) (virt : Bool) (S : AS) (idx pc : Nat) : Option qSu :=
  match cls.find? (fun k => k.1 == idx && (qvirt k == virt)) with
  | some k => if Nat.ble (qna k virt) S.2.1.2.length && Nat.ble (qwt (S.2.1.2.drop (qna k virt))) 8 && (qclr D S.1 S.2.2).2.2.isEmpty && (!virt || qrcv D (qclr D S.1 S.2.2) k (S.2.1.2.take (qna k virt)).reverse) then
      (match MT[k.2.2.1]? with
      | some y => qtry D ms fr lc y.2.2.1 k.2.2.1 (S.2.1.2.take (qna k virt)).reverse S.1 (qclr D S.1 S.2.2) S.2.1.1 (S.2.1.2.drop (qna k virt)) pc B
      | none => none) else none
  | none => none
section QVO
variable {γ : kΓ} {p : Program} {l : Launch} {e : Env} {R : Room} {s : State} {m : MethodId} {args : Array Value} {below : List Frame} {meth : Method} {c : Code} {H : Heap} {locs : List Loc} {cells slots : Nat} {Q : State → Prop}
variable {cc : ByteArray} {nL pc : Nat} {own : String} {A : Nat → Prop} {ws : va_W} {ls : Array Slot} {rest st0 : List Value}
variable {y : MethodName} {bytes : ByteArray} {maxL n index : Nat} {ret : Option FieldType} {rm : Room} {wc wr : va_W} {post : Option Value → va_W → Prop} {As : List Value} {i : Nat}
/-- invokevirtual of a word -/
theorem k_VO (n : Nat) (hl : Cond.methodLink own index y ∈ kG) (hi : Cond.instanceMethod y ∈ kG) (hse : Cond.selects y.cls y y ∈ kG) (hz : Cond.initialized y.cls ∈ kG) (hcode : Cond.code y bytes maxL ret ∈ kG)
    (hd : y.cls ≠ "java/lang/invoke/MethodHandle" ∧ y.cls ≠ "java/lang/invoke/VarHandle" ∧ (parseMethodDescriptor y.desc).map (fun d => d.parameters.length) = some n)
    (hC : kC γ p s m args c cc nL own A) (hw : kW γ A ws s H locs) (hM : kM γ l y bytes maxL ret rm (.ref (γ.2.2.2.2 i) :: As) wc post) (hR : rm.frames + 1 ≤ R.frames ∧ 8 + (maxL + 11) + rm.locals ≤ R.locals) (hf : cells + rm.cells ≤ R.cells ∧ slots + rm.slots ≤ R.slots)
    (hml : ls.size = nL) (hn : As.length = n) (hcls : y.cls = RX10) (hi26 : i < 26) (hstack : st0 = As.reverse ++ .ref (γ.2.2.2.2 i) :: rest) (hW : (rest.map fun v => v.category).sum ≤ 8)
    (isC isR : List Nat) (hnc : va_nd isC = true) (hcs : isC.map (fun i => ws[i]?) = wc.map some) (hrs : isR.map (fun i => ws[i]?) = wr.map some) (hnr : va_nd isR = true) (hdis : ∀ i ∈ isR, i ∉ isC) (hdg : decode cc pc = .ok (.invokevirtual index, 3))
    (kk : ∀ (r : Option Value) (w1 : va_W) (H1 : Heap) (locs1 : List Loc), post r w1 → kW γ A (wr ++ w1) s H1 locs1 → W p l e R s m args below meth c H1 locs1 (cells + rm.cells) (slots + rm.slots) Q (F0 m (pc + 3) ls (r.toList ++ rest))) : W p l e R s m args below meth c H locs cells slots Q (F0 m pc ls st0) :=
  k_call (va_runV (As := As) (rest := rest) (Ts := kG) ⟨hC.1, hC.2.1, hC.2.2.1, hC.2.2.2.1, hC.2.2.2.2.1⟩ (hM H.size) (cwV n hC.2.2.2.2.1 (k_words (ws0 := [.methodLink own index y, .instanceMethod y, .selects y.cls y y, .initialized y.cls]) (k_mem4 hl hi hse hz) hcode) rfl rfl rfl ⟨rfl, hd⟩ hR)
    ⟨(k_pre hC hw isC hnc hcs).1, by rw [hcls]; exact va_Orecv ((k_zw hC).1 i hi26).2 hw.2.2, (k_pre hC hw isC hnc hcs).2⟩ rfl hn hml hstack (lv_room hW) hdg hf) hC hw isC isR hcs hrs hnr hdis kk
end QVO
/-- calls of words stand in a row of their own -/
def qlk4 (own : String) (MT : List qMt) (k : qCl) : Prop := qlk own MT k ∨ (k.2.1 = 4 ∧ ∃ y, MT[k.2.2.1]? = some y ∧ y.1.cls = RX10 ∧ Cond.initialized y.1.cls ∈ kG ∧ Cond.code y.1 y.2.1 y.2.2.1 y.2.2.2 ∈ kG ∧
  (y.1.cls ≠ "java/lang/invoke/MethodHandle" ∧ y.1.cls ≠ "java/lang/invoke/VarHandle" ∧ (parseMethodDescriptor y.1.desc).map (fun d => d.parameters.length) = some k.2.2.2.1) ∧ Cond.methodLink own k.1 y.1 ∈ kG ∧ Cond.instanceMethod y.1 ∈ kG ∧ Cond.selects y.1.cls y.1 y.1 ∈ kG)
theorem qs_callG {x : qCx} (hB : qB x) {D : qWd} (eD : qxD x = D) (hD : qD D) {ms : qMods} (ems : qxms x = ms) {B : List qCon} {MT : List qMt} (hcon : ∀ c ∈ B, qSem x.1 x.2.2.1 D x.2.2.2.2.2.2.2.2.2.2.2.2.2.2.2.2.1 MT c) {cls : List qCl} (hcl : ∀ k ∈ cls, qlk4 (qxown x) MT k) {fr lc : Nat} (hR : fr ≤ x.2.2.2.2.1.frames ∧ lc ≤ x.2.2.2.2.1.locals)
    {virt : Bool} {S : AS} {idx pc : Nat} {L : qSu} (hs : qs_call D ms B cls MT fr lc virt S idx pc = some L) (hdc : (virt = true ∧ qdc x pc (.invokevirtual idx, 3)) ∨ (virt = false ∧ qdc x pc (.invokestatic idx, 3))) (h : qOk x L) : qG x S pc := by
  obtain ⟨γ, p, l, e, R, s, m, args, below, meth, c, Q, ⟨cc, nL', own⟩, A, D', adr, X, ms', w0, σe⟩ := x
  simp only [qxD] at eD
  simp only [qxms] at ems
  simp only at hcon
  subst eD
  subst ems
  obtain ⟨N, ⟨loc, stk⟩, M⟩ := S
  unfold qs_call at hs
  split at hs
  · rename_i k hk
    split at hs
    · rename_i hc
      simp only [Bool.and_eq_true, Nat.ble_eq] at hc
      obtain ⟨⟨⟨c1, c2⟩, c3⟩, c4⟩ := hc
      split at hs
      · rename_i y hy
        obtain ⟨con, hcB, hs⟩ := q_try hs
        unfold qtry1 at hs
        split at hs
        · rename_i hc
          simp only [Bool.and_eq_true, Nat.ble_eq, beq_iff_eq] at hc
          obtain ⟨⟨⟨⟨d1, d2⟩, d3⟩, d4⟩, d5⟩ := hc
          split at hs
          · rename_i z hz
            split at hs
            · rename_i hrel
              rw [List.all_eq_true] at hrel
              have hkf := List.find?_some hk
              simp only [Bool.and_eq_true, beq_iff_eq] at hkf
              obtain ⟨hki, hkv⟩ := hkf
              generalize hn0 : qna k virt = n0 at *
              intro σ ρ lv st ls ws H locs hw hl hS
              obtain ⟨h1, h2, h3, h4, h5, h6⟩ := hS
              have h3' := q_clr hD h1 h3 hw.2.1.1
              have hex : (qclr D' N M).2.2 = [] := by simpa using c3
              obtain ⟨σ1, ρ1, s1, r1, n1, m1, e1, f1⟩ := q_mat hD hw.2.1.1 h1 h3' hz
              have hFst := h2.2
              have hAs : F2 (qR σ ρ) (stk.take n0).reverse (st.take n0).reverse := (hFst.take n0).reverse
              have hrest : F2 (qR σ ρ) (stk.drop n0) (st.drop n0) := hFst.drop n0
              have hlen : st.length = stk.length := (F2.len hFst).symm
              have hH0 : qH D' γ adr (fun _ _ => False) ws := by
                refine ⟨h3.2.2.2.2.1, h3.2.2.2.2.2.1, fun q g a c hg hc => ?_⟩
                obtain ⟨r, r1, r2, r3⟩ := h3'.2.2.2.2.2.2 q g a c hg hc
                refine ⟨r, r1, r2, fun k hk => (r3 k hk).elim (fun ⟨n', z1, _⟩ => ?_) .inr⟩
                rw [hex] at z1; cases z1
              have hpre : qPre D' γ X con adr ws (st.take n0).reverse := by
                refine ⟨hH0, h4, q_tks hD h1 h3' hAs d4, fun f hf => ?_, fun r hr => ?_⟩
                · obtain ⟨k', hk'⟩ := List.getElem?_of_mem hf
                  obtain ⟨a, -, x, x1, x2, -⟩ := F2.get2 f1 hk'
                  exact ⟨_, x1, x2⟩
                · have hq := hrel r hr
                  unfold qrok at hq
                  split at hq
                  · rename_i a b ha hb
                    obtain ⟨fa, ga, xa, xa1, -, xa3⟩ := F2.idx f1 ha
                    obtain ⟨fb, gb, xb, xb1, -, xb3⟩ := F2.idx f1 hb
                    rw [Bool.and_eq_true, Bool.and_eq_true] at hq
                    exact ⟨_, _, by rw [ga]; exact xa1, by rw [gb]; exact xb1, q_ge n1 6 xa3 xb3 hq.2⟩
                  · cases hq
              obtain ⟨y', hy', hsem⟩ := hcon con hcB
              rw [d1, hy] at hy'
              cases hy'
              have hM := hsem adr ws _ hpre
              have hRR : con.1.2.1 + 1 ≤ R.frames ∧ 8 + (y.2.2.1 + 11) + con.1.2.2 ≤ R.locals := ⟨Nat.le_trans d2 hR.1, Nat.le_trans d3 hR.2⟩
              have hW8 : ((st.drop n0).map fun v => v.category).sum ≤ 8 := by rw [q_wt hrest]; exact c2
              have kk : ∀ (r : Option Value) (w1 : va_W) (H1 : Heap) (locs1 : List Loc), qPost D' γ X con adr ws (st.take n0).reverse r w1 → kW γ A w1 s H1 locs1 → W p l e R s m args below meth c H1 locs1 0 0 Q (F0 m (pc + 3) ls (r.toList ++ st.drop n0)) := by
                intro r w1 H1 locs1 hp hw1
                obtain ⟨p1, p2, p3, t, t1, t2⟩ := hp
                obtain ⟨Lt, l1, l2⟩ := q_cat hs (qalts D' z.1 (qdm D' z.2.1 con.2.2.2.2.2) loc (stk.drop n0) (stk.take n0).reverse z.2.2 pc t) (List.mem_map.mpr ⟨t, t1, rfl⟩)
                have m2 := q_dm hD m1 hw.2.1.1 p1 p3
                obtain ⟨N', M', ra, σ2, ρ2, g0, g1, g2, g3, g4, g5⟩ := q_alts hD hw1.2.1.1 n1 m2 (F2.mono (fun _ _ h => h.mono s1 r1) hAs) f1 t2 l1
                have hF := h2.mono (s1.trans g1) (r1.trans g2)
                exact h _ (l2 _ g0) σ2 ρ2 lv (r.toList ++ st.drop n0) ls w1 H1 locs1 hw1 hl ⟨g3, ⟨hF.1, F2.append g5 (F2.mono (fun _ _ h => h.mono (s1.trans g1) (r1.trans g2)) hrest)⟩, g4, p2, q_keepT h3 p1 d5 h5 p3, fun v x hv => g1 v x (s1 v x (h6 v x hv))⟩
              have hlk := hcl k (List.mem_of_find?_eq_some hk)
              have hsplit : st = (st.take n0).reverse.reverse ++ st.drop n0 := by rw [List.reverse_reverse, List.take_append_drop]
              have hnr : k.1 = idx := hki
              cases virt with
              | true =>
                simp only [qna, if_true] at hn0
                have hdg : decode cc pc = .ok (.invokevirtual k.1, 3) := by
                  rcases hdc with ⟨-, h9⟩ | ⟨h9, -⟩
                  · rw [hnr]; exact h9
                  · cases h9
                simp only [Bool.not_true, Bool.false_or] at c4
                unfold qrcv at c4
                have hne : ∃ b As, (st.take n0).reverse = .ref b :: As ∧ As.length = k.2.2.2.1 ∧ ((k.2.1 = 4 ∧ ∃ i, i < 26 ∧ b = γ.2.2.2.2 i) ∨ (¬ k.2.1 = 4 ∧ ∃ (q : Nat) (fs : List Value), ws[q]? = some (b, .inr (k.2.2.2.2, fs)))) := by
                  split at c4
                  · rename_i a as' hst
                    rw [hst] at hAs
                    match hv : (st.take n0).reverse, hAs with
                    | v :: As, ⟨hr, _⟩ =>
                    simp only [Bool.and_eq_true, beq_iff_eq] at c4
                    obtain ⟨c4a, c4b⟩ := c4
                    obtain ⟨b, rfl, hb⟩ := q_rfv hr c4a
                    refine ⟨b, As, rfl, ?_, ?_⟩
                    · have : (st.take n0).reverse.length = n0 := by rw [List.length_reverse, List.length_take]; omega
                      rw [hv] at this
                      simp at this
                      omega
                    · split at c4b
                      · rename_i g hg
                        split at c4b
                        · rename_i h44
                          simp only [beq_iff_eq] at h44 c4b
                          subst c4b
                          exact .inl ⟨h44, q_rgW hD h3' hg hb⟩
                        · rename_i h44
                          have h44 : ¬ k.2.1 = 4 := by simpa using h44
                          simp only [Bool.and_eq_true, Bool.not_eq_true', beq_eq_false_iff_ne, ne_eq] at c4b
                          obtain ⟨u1, u2⟩ := c4b
                          obtain ⟨q, cl, r', g1, g2, g3, g4, g5⟩ := q_cell hD h3' hg u1 hb
                          rw [g3] at u2
                          simp only [beq_iff_eq] at u2
                          obtain ⟨fs, rfl, -⟩ := q_obj g4 u2
                          exact .inr ⟨h44, q, fs, g2⟩
                      · cases c4b
                  · cases c4
                obtain ⟨b, As, hav, hal, hrc⟩ := hne
                have hst0 : st = As.reverse ++ .ref b :: st.drop n0 := by
                  have := hsplit
                  rw [hav, List.reverse_cons, List.append_assoc] at this
                  exact this
                rw [hav] at hM kk
                rcases hrc with ⟨k4, i, hi, rfl⟩ | ⟨k4, q, fs, hq⟩
                · rcases hlk with hlk | ⟨-, y2, e1, e2, e3, e4, e5, e6, e7, e8⟩
                  · obtain ⟨_, _, _, _, _, hkk⟩ := hlk
                    exfalso
                    rcases hkk with ⟨z, _⟩ | ⟨z, _⟩ | ⟨z, _⟩ | ⟨z, _⟩ <;> omega
                  · rw [hy] at e1
                    cases e1
                    exact k_VO (wr := []) k.2.2.2.1 e6 e7 e8 e3 e4 e5 hB hw hM hRR ⟨Nat.zero_le _, Nat.zero_le _⟩ hl.1 hal e2 hi hst0 hW8 (List.range ws.length) [] (q_nd _) (q_all ws) rfl rfl (fun _ h => by cases h) hdg (fun r w1 H1 locs1 hp hw1 => kk r w1 H1 locs1 hp hw1)
                · rcases hlk with hlk | ⟨z, -⟩
                  · refine k_callG hB hw hlk hy hM hRR hl.1 hal hW8 (.inl ⟨?_, b, q, fs, rfl, hq, hst0⟩) (.inl ⟨?_, hdg⟩) kk
                    · unfold qvirt at hkv
                      simp only [Bool.or_eq_true, beq_iff_eq] at hkv
                      omega
                    · unfold qvirt at hkv
                      simp only [Bool.or_eq_true, beq_iff_eq] at hkv
                      omega
                  · exact absurd z k4
              | false =>
                have hn0' : n0 = k.2.2.2.1 := by simp [qna] at hn0; exact hn0.symm
                have hdg : decode cc pc = .ok (.invokestatic k.1, 3) := by
                  rcases hdc with ⟨h9, -⟩ | ⟨-, h9⟩
                  · cases h9
                  · rw [hnr]; exact h9
                have hkv' : ¬ k.2.1 = 0 ∧ ¬ k.2.1 = 2 ∧ ¬ k.2.1 = 4 := by
                  unfold qvirt at hkv
                  simp at hkv
                  omega
                rcases hlk with hlk | ⟨z, -⟩
                · have hk13 : k.2.1 = 1 ∨ k.2.1 = 3 := by
                    obtain ⟨_, _, _, _, _, hkk⟩ := hlk
                    rcases hkk with ⟨z, _⟩ | ⟨z, _⟩ | ⟨z, _⟩ | ⟨z, _⟩ <;> omega
                  refine k_callG hB hw hlk hy hM hRR hl.1 (As := (st.take n0).reverse) ?_ hW8 (.inr ⟨hk13, rfl, hsplit⟩) (.inr ⟨hk13, hdg⟩) kk
                  rw [List.length_reverse, List.length_take]
                  omega
                · exact absurd z hkv'.2.2
            · cases hs
          · cases hs
        · cases hs
      · cases hs
    · cases hs
  · cases hs

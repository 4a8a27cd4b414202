/-! a segment by itself; numbers and cells as they are -/
theorem q_seg {γ : kΓ} {p : Program} {l : Launch} {e : Env} {R : Room} {s : State} {m : MethodId} {args : Array Value} {below : List Frame} {meth : Method} {cd : Code} {Q : State → Prop} {cc : ByteArray} {nL : Nat} {own : String} {A : Nat → Prop} {D : qWd} {adr : List Nat} {X : va_W → Prop} {ms : qMods} {w0 : va_W}
    {xr : List Nat} {tb : qTb} {MT : List qMt} {B : List qCon} {fr lc rk : Nat} {c : qCon} {ea pa : List AV} {T : qPg} {sps : List (Nat × Nat)} {n0 n1 : Nat} {lk : List Nat} {cuts : List qCut} {fu : Nat} {av : List Value} {σ : qσ}
    (hB : kC γ p s m args cd cc nL own A) (hD : qD D) (ecm : ms = c.2.2.2.2.2) (hX : ∀ (ws : va_W) (q g a : Nat) (c : va_E), D.1[q]? = some g → ¬ g ∈ xr → ws.map Prod.fst = adr → adr[q]? = some a → X ws → X (ws.set q (a, c))) (htb : qTbk own MT tb) (hcon : ∀ c ∈ B, qSem γ l D X MT c) (hR : fr ≤ R.frames ∧ lc ≤ R.locals) (hT : qPgk T cc = true) (hE : qEn σ w0 av ea pa c)
    (hret : qRt (γ, p, l, e, R, s, m, args, below, meth, cd, Q, (cc, nL, own), A, D, adr, X, ms, w0, σ) rk (qPost D γ X c adr w0 av))
    {S : AS} {pc : Nat} (hs : qrun D ms xr tb MT B fr lc nL rk c ea pa T [] sps (qgo D ms xr tb MT B fr lc nL rk c ea pa T [] sps n0 lk cuts n1 none fu) S pc = true)
    (hk : ∀ k ∈ cuts, ∀ (σ2 : qσ) (ρ2 : qρ) (lv2 : List (Nat × Value)) (st2 : List Value) (ls2 : Array Slot) (ws2 : va_W) (H2 : Heap) (locs2 : List Loc), kW γ A ws2 s H2 locs2 → lv_has ls2 nL lv2 → qsN D σ2 k.2.1.1 → qsF σ2 ρ2 k.2.1.2.1 lv2 st2 → qsM D γ adr σ2 ρ2 k.2.1.2.2 ws2 → X ws2 → qK D ms w0 ws2 → (∀ v z, v < n0 → σ v = some z → σ2 v = some z) → W p l e R s m args below meth cd H2 locs2 0 0 Q (F0 m k.1 ls2 st2))
    {ρ : qρ} {lv : List (Nat × Value)} {st : List Value} {ls : Array Slot} {ws : va_W} {H : Heap} {locs : List Loc} (hw : kW γ A ws s H locs) (hl : lv_has ls nL lv) (hN : qsN D σ S.1) (hF : qsF σ ρ S.2.1 lv st) (hM : qsM D γ adr σ ρ S.2.2 ws) (hx : X ws) (hK : qK D ms w0 ws) : W p l e R s m args below meth cd H locs 0 0 Q (F0 m pc ls st) := by
  have hth : qTh9 (γ, p, l, e, R, s, m, args, below, meth, cd, Q, (cc, nL, own), A, D, adr, X, ms, w0, σ) [] := fun pc h => by cases h
  have hG : qG (γ, p, l, e, R, s, m, args, below, meth, cd, Q, (cc, nL, own), A, D, adr, X, ms, w0, σ) S pc := by
    refine q_run (x := (γ, p, l, e, R, s, m, args, below, meth, cd, Q, (cc, nL, own), A, D, adr, X, ms, w0, σ)) (av := av) hB rfl hD rfl ecm hX htb hcon hR rfl hT hE hret hth ?_ hs
    intro S1 pc1 hS1
    refine q_go (x := (γ, p, l, e, R, s, m, args, below, meth, cd, Q, (cc, nL, own), A, D, adr, X, ms, w0, σ)) (av := av) hB rfl hD rfl ecm hX htb hcon hR rfl hT hE hret hth ?_ fu S1 pc1 hS1
    intro k' hk' S' hc'
    unfold qcchk at hc'
    simp only [Bool.and_eq_true] at hc'
    intro σ2 ρ2 lv2 st2 ls2 ws2 H2 locs2 hw2 hl2 hS2
    obtain ⟨g1, g2, g3, g4, g5, g6⟩ := hS2
    obtain ⟨lv', f1, f2, f3, f4, f5⟩ := q_sub1 hD g1 g2 g3 hw2.2.1.1 hc'.1
    refine hk k' hk' _ _ lv' st2 ls2 ws2 H2 locs2 hw2 ⟨hl2.1, hl2.2.1, fun q hq => hl2.2.2 q (f1 q hq)⟩ f2 f3 f4 g4 g5 ?_
    intro v z hv hz
    rw [f5 v hv]
    exact g6 _ _ hz
  exact hG σ ρ lv st ls ws H locs hw hl ⟨hN, hF, hM, hx, hK, qle1.refl _⟩
def qsl (l : List Int) : qσ := fun v => l[v]?
def qr0 (D : qWd) (adr : List Nat) : qρ := fun n => if n < D.2.2 then adr[n]? else none
theorem q_Nof {D : qWd} {l : List Int} {env : List qIv} {rel : List (Nat × Nat × Int)} (h1 : F2 (fun x iv => qIn iv x) l env) (h2 : ∀ a b d, (a, b, d) ∈ rel → ∃ x y, l[a]? = some x ∧ l[b]? = some y ∧ y + d ≤ x) : qsN D (qsl l) (env, rel, []) := by
  refine ⟨fun v hv => ?_, fun v iv h => ?_, h2, fun _ _ _ _ h => by cases h⟩
  · have := F2.len h1
    unfold qsl
    rw [List.getElem?_eq_none]
    simp only at hv
    omega
  · obtain ⟨x, hx, hi⟩ := F2.get2 h1 h
    exact ⟨x, hx, hi⟩
theorem q_gvM {D : qWd} {γ : kΓ} {adr : List Nat} {σ : qσ} {ρ : qρ} {M : qM} {ws : va_W} (hH : qsM D γ adr σ ρ M ws) (hdis : ∀ (i j : Nat) (p q : Nat × va_E), ws[i]? = some p → ws[j]? = some q → p.1 = q.1 → i = j) {n k : Nat} {av : AV} (hn : n < D.2.2) (hk : k < 10000) (hi : qint av = true) (hm : (n, k, av) ∈ M.2.1) : ∃ x, qval ws (n, k, 0, 0) = some x ∧ qvl σ av = some x := by
  obtain ⟨q, a, c, v, ix, g1, g2, g3, g4, g5⟩ := hH.2.2.2.1 n k av hm
  have hix : ix = k := by
    rcases g5 with ⟨-, h7⟩ | ⟨h7, -⟩
    · exact h7
    · omega
  have h9 := hH.1 n hn
  rw [g2] at h9
  obtain ⟨c9, h10⟩ := q_adr hH h9.symm
  have h11 := hdis q n _ _ g1 h10 rfl
  rw [h11] at g1
  rw [hix] at g3
  obtain ⟨y, rfl⟩ := q_int g4 hi
  refine ⟨y.toInt, ?_, q_vl g4⟩
  simp only [qval, g1, g3]
theorem q_Mof {D : qWd} {γ : kΓ} {adr : List Nat} {σ : qσ} {ws : va_W} (hH : qH D γ adr (fun _ _ => False) ws) {mem : List (Nat × Nat × AV)} (h : ∀ n k av, (n, k, av) ∈ mem → n < D.2.2 ∧ ∃ (x : Int) (i : Nat), qval ws (n, i, 0, 0) = some x ∧ qvl σ av = some x ∧ qix σ k i) : qsM D γ adr σ (qr0 D adr) ([], mem, []) ws := by
  refine ⟨fun n hn => by unfold qr0; rw [if_pos hn], fun j g hj => by simp at hj, fun n hn => ?_, fun n k av hm => ?_, hH.1, hH.2.1, fun q g a c hg hc => ?_⟩
  · have : ¬ n < D.2.2 := by simp at hn; omega
    unfold qr0
    rw [if_neg this]
  · obtain ⟨h1, x, i, h2, h3, h4⟩ := h n k av hm
    simp only [qval] at h2
    split at h2
    · rename_i c hc
      split at h2
      · rename_i y hy
        cases h2
        have ha : adr[n]? = some c.1 := by rw [← hH.1, List.getElem?_map, hc]; rfl
        refine ⟨n, c.1, c.2, .int y, i, hc, by unfold qr0; rw [if_pos h1]; exact ha, hy, ?_, h4⟩
        unfold qvl at h3
        split at h3
        · rename_i h0
          rw [Option.map_eq_some_iff] at h3
          obtain ⟨u, u1, u2⟩ := h3
          exact .inl ⟨h0, y, u, rfl, u1, u2.symm⟩
        · split at h3
          · rename_i h0
            exact .inr (.inl ⟨h0, y, rfl, (Option.some.inj h3).symm⟩)
          · cases h3
      · cases h2
    · cases h2
  · obtain ⟨r, r1, r2, r3⟩ := hH.2.2 q g a c hg hc
    exact ⟨r, r1, r2, fun k hk => (r3 k hk).elim (fun f => f.elim) .inr⟩
theorem q_Kval {D : qWd} {γ : kΓ} {adr : List Nat} {ms : qMods} {w0 ws : va_W} (h0 : qH D γ adr (fun _ _ => False) w0) (h1 : qH D γ adr (fun _ _ => False) ws) (hK : qK D ms w0 ws) {n g k : Nat} (hg : D.1[n]? = some g) (hm : qmod ms g k = false) : qval ws (n, k, 0, 0) = qval w0 (n, k, 0, 0) := by
  have hl : n < D.1.length := (List.getElem?_eq_some_iff.mp hg).1
  obtain ⟨⟨a0, c0⟩, e0⟩ : ∃ c, w0[n]? = some c := ⟨_, List.getElem?_eq_getElem (by rw [h0.2.1]; exact hl)⟩
  obtain ⟨⟨a1, c1⟩, e1⟩ : ∃ c, ws[n]? = some c := ⟨_, List.getElem?_eq_getElem (by rw [h1.2.1]; exact hl)⟩
  have := hK n g _ _ _ _ hg e0 e1 k hm
  simp only [qval, e0, e1, this]
theorem q_ty {D : qWd} {γ : kΓ} {adr : List Nat} {ws : va_W} (hH : qH D γ adr (fun _ _ => False) ws) {n g k : Nat} {r : qRT} (hg : D.1[n]? = some g) (hr : D.2.1[g]? = some r) (hk : k < r.2.1) (h0 : (qsg r.2.2 k).1 = 0) : ∃ x : Int32, qval ws (n, k, 0, 0) = some x.toInt ∧ qIn (qsg r.2.2 k).2 x.toInt := by
  have hl : n < D.1.length := (List.getElem?_eq_some_iff.mp hg).1
  obtain ⟨⟨a1, c1⟩, e1⟩ : ∃ c, ws[n]? = some c := ⟨_, List.getElem?_eq_getElem (by rw [hH.2.1]; exact hl)⟩
  obtain ⟨r', r1, r2, r3⟩ := hH.2.2 n g _ _ hg e1
  rw [hr] at r1
  cases r1
  rcases r3 k hk with h | ⟨v, v1, v2⟩
  · exact h.elim
  · obtain ⟨x, rfl, hx⟩ := v2.1 h0
    exact ⟨x, by simp only [qval, e1, v1], hx⟩
theorem q_r3 {σ : qσ} {ρ : qρ} {n : Nat} {d : Int} {v : Value} (h : qR σ ρ (3, n, d) v) : ∃ b, v = .ref b ∧ ρ n = some b := by
  rcases h with ⟨t, _⟩ | ⟨t, _⟩ | ⟨t, _⟩ | ⟨_, b, e, h⟩
  · cases t
  · cases t
  · cases t
  · exact ⟨b, e, h⟩
theorem q_r1 {σ : qσ} {ρ : qρ} {n : Nat} {d : Int} {v : Value} (h : qR σ ρ (1, n, d) v) : ∃ x : Int32, v = .int x ∧ x.toInt = d := by
  rcases h with ⟨t, _⟩ | ⟨_, x, e, h⟩ | ⟨t, _⟩ | ⟨t, _⟩
  · cases t
  · exact ⟨x, e, h⟩
  · cases t
  · cases t
theorem q_r0 {σ : qσ} {ρ : qρ} {n : Nat} {d : Int} {v : Value} (h : qR σ ρ (0, n, d) v) : ∃ (x : Int32) (u : Int), v = .int x ∧ σ n = some u ∧ x.toInt = u + d := by
  rcases h with ⟨_, x, u, e, h1, h2⟩ | ⟨t, _⟩ | ⟨t, _⟩ | ⟨t, _⟩
  · exact ⟨x, u, e, h1, h2⟩
  · cases t
  · cases t
  · cases t
theorem q_l4 {α β : Type} {P : α → β → Prop} {a b c d : α} : ∀ {l : List β}, F2 P [a, b, c, d] l → ∃ w x y z, l = [w, x, y, z] ∧ P a w ∧ P b x ∧ P c y ∧ P d z
  | [w, x, y, z], ⟨h1, h2, h3, h4, _⟩ => ⟨w, x, y, z, rfl, h1, h2, h3, h4⟩
theorem q_l0 {α β : Type} {P : α → β → Prop} : ∀ {l : List β}, F2 P [] l → l = []
  | [], _ => rfl
theorem q_iky {l : List Int} {v k : Nat} (h : l[v]? = some (k : Int)) : qix (qsl l) (qky (0, v, 0)) k := (q_ky (i := (0, v, 0)) (by unfold qkyb; rfl)).mpr ⟨k, h, by simp⟩

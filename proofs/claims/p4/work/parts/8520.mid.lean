/-! a start in the middle -/
theorem q_mid {γ : kΓ} {p : Program} {l : Launch} {e : Env} {R : Room} {s : State} {m : MethodId} {args : Array Value} {below : List Frame} {meth : Method} {cd : Code} {Q : State → Prop} {cc : ByteArray} {nL : Nat} {own : String} {A : Nat → Prop} {D : qWd} {adr : List Nat} {X : va_W → Prop} {ms : qMods} {w0 : va_W}
    {xr : List Nat} {tb : qTb} {MT : List qMt} {B : List qCon} {fr lc rk : Nat} {c : qCon} {ea pa : List AV} {T : qPg} {sps : List (Nat × Nat)} {n0 n1 : Nat} {lk : List Nat} {cuts : List qCut} {fu : Nat} {av : List Value} {σ : qσ}
    (hB : kC γ p s m args cd cc nL own A) (hD : qD D) (ecm : ms = c.2.2.2.2.2) (hX : ∀ (ws : va_W) (q g a : Nat) (c : va_E), D.1[q]? = some g → ¬ g ∈ xr → ws.map Prod.fst = adr → adr[q]? = some a → X ws → X (ws.set q (a, c))) (htb : qTbk own MT tb) (hcon : ∀ c ∈ B, qSem γ l D X MT c) (hR : fr ≤ R.frames ∧ lc ≤ R.locals) (hT : qPgk T cc = true) (hE : qEn σ w0 av ea pa c)
    (hret : ∀ σ : qσ, qRt (γ, p, l, e, R, s, m, args, below, meth, cd, Q, (cc, nL, own), A, D, adr, X, ms, w0, σ) rk (qPost D γ X c adr w0 av))
    {S : AS} {pc : Nat} (hn : S.1.1.length = n0) (hgo : qgo D ms xr tb MT B fr lc nL rk c ea pa T [] sps n0 lk cuts n1 none fu S pc = true) (hseg : qsegs D ms xr tb MT B fr lc nL rk c ea pa T [] sps n0 lk cuts fu = true)
    {ρ : qρ} {lv : List (Nat × Value)} {st : List Value} {ls : Array Slot} {ws : va_W} {H : Heap} {locs : List Loc} (hw : kW γ A ws s H locs) (hl : lv_has ls nL lv) (hN : qsN D σ S.1) (hF : qsF σ ρ S.2.1 lv st) (hM : qsM D γ adr σ ρ S.2.2 ws) (hx : X ws) (hK : qK D ms w0 ws) : W p l e R s m args below meth cd H locs 0 0 Q (F0 m pc ls st) := by
  have hth : ∀ σ : qσ, qTh9 (γ, p, l, e, R, s, m, args, below, meth, cd, Q, (cc, nL, own), A, D, adr, X, ms, w0, σ) [] := fun σ pc h => by cases h
  have h0 : ∀ v, n0 ≤ v → σ v = none := fun v hv => hN.1 v (by rw [hn]; exact hv)
  have hG : qG (γ, p, l, e, R, s, m, args, below, meth, cd, Q, (cc, nL, own), A, D, adr, X, ms, w0, σ) S pc := by
    refine q_go (x := (γ, p, l, e, R, s, m, args, below, meth, cd, Q, (cc, nL, own), A, D, adr, X, ms, w0, σ)) (av := av) hB rfl hD rfl ecm hX htb hcon hR rfl hT hE (hret σ) (hth σ) ?_ fu S pc hgo
    intro k' hk' S' hc'
    unfold qcchk at hc'
    simp only [Bool.and_eq_true] at hc'
    intro σ3 ρ3 lv3 st3 ls3 ws3 H3 locs3 hw3 hl3 hS3
    obtain ⟨g1, g2, g3, g4, g5, g6⟩ := hS3
    obtain ⟨lv', f1, f2, f3, f4, f5⟩ := q_sub1 hD g1 g2 g3 hw3.2.1.1 hc'.1
    have hseg' := hseg
    unfold qsegs at hseg'
    rw [List.all_eq_true] at hseg'
    have hs' := hseg' k' hk'
    simp only [Bool.and_eq_true] at hs'
    obtain ⟨y', y1, y2⟩ := q_pos f2 hs'.1
    refine q_cuts hB hD ecm hX htb hcon hR hT hE hret hth h0 hseg ((k'.2.2.1 + y').toNat + 1) k' hk' _ _ lv' st3 ls3 ws3 H3 locs3 y' hw3 ⟨hl3.1, hl3.2.1, fun q hq => hl3.2.2 q (f1 q hq)⟩ f2 f3 f4 g4 g5 ?_ y1 (Nat.lt_succ_self _)
    intro v z hv
    have hv0 : v < n0 := by
      rcases Nat.lt_or_ge v n0 with h9 | h9
      · exact h9
      · rw [h0 v h9] at hv; cases hv
    rw [f5 v hv0]
    exact g6 _ _ hv
  exact hG σ ρ lv st ls ws H locs hw hl ⟨hN, hF, hM, hx, hK, qle1.refl _⟩
/-- a segment that doesn't return -/
def qNo (ms : qMods) : qCon := ((0, 0, 0), [], [], [], [], ms)
theorem q_noR {x : qCx} {rk : Nat} {D : qWd} {γ : kΓ} {X : va_W → Prop} {ms : qMods} {adr : List Nat} {w0 : va_W} : qRt x rk (qPost D γ X (qNo ms) adr w0 []) := by
  intro ws H locs pc ls hw
  have no : ∀ r w, ¬ qPost D γ X (qNo ms) adr w0 [] r w := fun r w h => by
    obtain ⟨_, _, _, t, t1, _⟩ := h
    cases t1
  exact ⟨fun _ _ h => absurd h (no _ _), fun _ _ _ h => absurd h (no _ _), fun _ _ _ h => absurd h (no _ _)⟩
theorem q_noE {σ : qσ} {w0 : va_W} {ms : qMods} : qEn σ w0 [] [] [] (qNo ms) := ⟨fun i a h _ => by simp at h, trivial⟩
theorem q_K0 {D : qWd} {ms : qMods} {ws : va_W} : qK D ms ws ws := fun q g a c a' c' _ h1 h2 k _ => by rw [h1] at h2; cases h2; rfl
theorem q_Kt {D : qWd} {γ : kΓ} {adr : List Nat} {ms ms' : qMods} {w0 w1 w2 : va_W} (hH : qH D γ adr (fun _ _ => False) w1) (hc : qcov ms' ms = true) (h1 : qK D ms w0 w1) (h2 : qK D ms' w1 w2) : qK D ms w0 w2 := by
  intro q g a c a' c' hg e0 e2 k hk
  have hl : q < D.1.length := (List.getElem?_eq_some_iff.mp hg).1
  obtain ⟨⟨a1, c1⟩, e1⟩ : ∃ c, w1[q]? = some c := ⟨_, List.getElem?_eq_getElem (by rw [hH.2.1]; exact hl)⟩
  rw [h2 q g a1 c1 a' c' hg e1 e2 k (q_cov hc hk), h1 q g a c a1 c1 hg e0 e1 k hk]
theorem m_K1 {γ : kΓ} {adr : List Nat} {ms : qMods} {w0 ws : va_W} (h0 : qH mD γ adr (fun _ _ => False) w0) (h1 : qH mD γ adr (fun _ _ => False) ws) (hK : qK mD ms w0 ws) {n k : Nat} (hg : mD.1[n]? = some n) (hm : qmod ms n k = false) : mGet ws n k = mGet w0 n k := m_get1 (h0.1.trans h1.1.symm) (fun a a' c c' e0 e1 => hK n n a c a' c' hg e0 e1 k hm)

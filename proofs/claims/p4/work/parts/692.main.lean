/-! the run of a method's code, and the contract that it gives -/
def qfin (rk : Nat) (D : qWd) (c : qCon) (ea pa : List AV) (S : AS) (i : Instr) (len : Nat) : Option Bool := match i with
  | .return_ => some (len == 1 && rk == 0 && S.2.1.2.isEmpty && qret D c ea pa S.1 S.2.2 none)
  | .ireturn => some (match S.2.1.2 with
    | [a] => len == 1 && qint a && (rk == 1 || (rk == 2 && qtk D S.1 S.2.2 a (0, 0, 1))) && qret D c ea pa S.1 S.2.2 (some a)
    | _ => false)
  | .lreturn => some (match S.2.1.2 with
    | [a] => len == 1 && a.1 == 2 && rk == 3 && qret D c ea pa S.1 S.2.2 (some a)
    | _ => false)
  | _ => none
def qone (D : qWd) (ms : qMods) (xr : List Nat) (tb : qTb) (MT : List qMt) (B : List qCon) (fr lc nL rk : Nat) (c : qCon) (ea pa : List AV) (T : qPg) (g : AS → Nat → Bool) (S : AS) (pc : Nat) : Bool :=
  match qat T pc with
  | some i => (match qfin rk D c ea pa S i.1 i.2 with
    | some b => b
    | none => (match qstep D ms xr tb MT B fr lc nL S pc i.1 i.2 with
      | some L => L.all (fun y => g y.1 y.2)
      | none => false))
  | none => false
def qrun (D : qWd) (ms : qMods) (xr : List Nat) (tb : qTb) (MT : List qMt) (B : List qCon) (fr lc nL rk : Nat) (c : qCon) (ea pa : List AV) (T : qPg) (thr : List Nat) (sps : List (Nat × Nat)) (g : AS → Nat → Bool) (S : AS) (pc : Nat) : Bool :=
  if thr.contains pc then S.2.1.2.isEmpty && (qclr D S.1 S.2.2).2.2.isEmpty
  else (match sps.find? (fun q => q.1 == pc) with
    | some q => (match qsplit S q.2 with
      | some L => L.all (fun U => qone D ms xr tb MT B fr lc nL rk c ea pa T g U pc)
      | none => false)
    | none => qone D ms xr tb MT B fr lc nL rk c ea pa T g S pc)
def qgo (D : qWd) (ms : qMods) (xr : List Nat) (tb : qTb) (MT : List qMt) (B : List qCon) (fr lc nL rk : Nat) (c : qCon) (ea pa : List AV) (T : qPg) (thr : List Nat) (sps : List (Nat × Nat)) (n0 : Nat) (lk : List Nat) (cuts : List qCut) (n1 : Nat) (L0 : Option qLin) : Nat → AS → Nat → Bool
  | 0, _, _ => false
  | f + 1, S, pc => if cuts.any (fun k => k.1 == pc) then cuts.any (fun k => k.1 == pc && qcchk D n0 lk n1 L0 S k)
    else qrun D ms xr tb MT B fr lc nL rk c ea pa T thr sps (qgo D ms xr tb MT B fr lc nL rk c ea pa T thr sps n0 lk cuts n1 L0 f) S pc
def qRt (x : qCx) (rk : Nat) (post : Option Value → va_W → Prop) : Prop := ∀ (ws : va_W) (H : Heap) (locs : List Loc) (pc : Nat) (ls : Array Slot), qkW x ws H locs →
  (rk = 0 → qdc x pc (.return_, 1) → post none ws → qWp x H locs pc ls []) ∧
  (∀ v : Int32, (rk = 1 ∨ (rk = 2 ∧ (v = 0 ∨ v = 1))) → qdc x pc (.ireturn, 1) → post (some (.int v)) ws → qWp x H locs pc ls [.int v]) ∧
  (∀ v : Int64, rk = 3 → qdc x pc (.lreturn, 1) → post (some (.long v)) ws → qWp x H locs pc ls [.long v])
abbrev qxX (x : qCx) : va_W → Prop := x.2.2.2.2.2.2.2.2.2.2.2.2.2.2.2.2.1
abbrev qxadr (x : qCx) : List Nat := x.2.2.2.2.2.2.2.2.2.2.2.2.2.2.2.1
abbrev qxw0 (x : qCx) : va_W := x.2.2.2.2.2.2.2.2.2.2.2.2.2.2.2.2.2.2.1
abbrev qxσ (x : qCx) : qσ := x.2.2.2.2.2.2.2.2.2.2.2.2.2.2.2.2.2.2.2
abbrev qxcc (x : qCx) : ByteArray := x.2.2.2.2.2.2.2.2.2.2.2.2.1.1
def qTh9 (x : qCx) (thr : List Nat) : Prop := ∀ pc ∈ thr, ∀ (ws : va_W) (H : Heap) (locs : List Loc) (ls : Array Slot) (lv : List (Nat × Value)), qkW x ws H locs → qlv x ls lv → qH (qxD x) x.1 (qxadr x) (fun _ _ => False) ws → qxX x ws → qK (qxD x) (qxms x) (qxw0 x) ws → qWp x H locs pc ls []
section QGO
variable {x : qCx} {D : qWd} {ms : qMods} {xr : List Nat} {tb : qTb} {MT : List qMt} {B : List qCon} {fr lc nL rk : Nat} {c : qCon} {ea pa : List AV} {T : qPg} {thr : List Nat} {sps : List (Nat × Nat)} {n0 : Nat} {lk : List Nat} {cuts : List qCut} {n1 : Nat} {L0 : Option qLin} {av : List Value}
theorem q_fin (eD : qxD x = D) (hD : qD D) (ems : qxms x = c.2.2.2.2.2) (hE : qEn (qxσ x) (qxw0 x) av ea pa c) (hret : qRt x rk (qPost D x.1 (qxX x) c (qxadr x) (qxw0 x) av)) {S : AS} {pc : Nat} {i : Instr} {len : Nat} {b : Bool} (hf : qfin rk D c ea pa S i len = some b) (hb : b = true) (hdc : qdc x pc (i, len)) : qG x S pc := by
  obtain ⟨γ, p, l, e, R, s, m, args, below, meth, cd, Q, ⟨cc, nL', own⟩, A, D', adr, X, ms', w0, σe⟩ := x
  simp only [qxD] at eD
  simp only [qxms] at ems
  subst eD
  subst ems
  subst hb
  obtain ⟨N, ⟨loc, stk⟩, M⟩ := S
  intro σ ρ lv st ls ws H locs hw hl hS
  obtain ⟨h1, h2, h3, h4, h5, h6⟩ := hS
  have hq := hret ws H locs pc ls hw
  unfold qfin at hf
  split at hf
  · simp only [Option.some.injEq, Bool.and_eq_true, beq_iff_eq] at hf
    obtain ⟨⟨⟨f1, f2⟩, f3⟩, f4⟩ := hf
    subst f1
    have hst : stk = [] := by simpa using f3
    subst hst
    match st, h2.2 with
    | [], _ => exact hq.1 f2 hdc (q_ret hD hE h6 h1 h3 h4 h5 hw.2.1.1 (.inl ⟨rfl, rfl⟩) f4)
  · simp only [Option.some.injEq] at hf
    split at hf
    · rename_i a
      simp only [Bool.and_eq_true, beq_iff_eq, Bool.or_eq_true] at hf
      obtain ⟨⟨⟨f1, f2⟩, f3⟩, f4⟩ := hf
      subst f1
      match st, h2.2 with
      | [v], ⟨hr, _⟩ =>
      obtain ⟨z, rfl⟩ := q_int hr f2
      refine hq.2.1 z ?_ hdc (q_ret hD hE h6 h1 h3 h4 h5 hw.2.1.1 (.inr ⟨_, _, rfl, rfl, hr⟩) f4)
      rcases f3 with f3 | ⟨f3, f5⟩
      · exact .inl f3
      · refine .inr ⟨f3, ?_⟩
        obtain ⟨w, e1, e2⟩ := (q_tk hD h1 h3 hr f5).1 rfl
        cases e1
        simp only [qIn] at e2
        have h8 : z.toInt = 0 ∨ z.toInt = 1 := by omega
        rcases h8 with h8 | h8
        · exact .inl (Int32.toInt_inj.mp (by simpa using h8))
        · exact .inr (Int32.toInt_inj.mp (by simpa using h8))
    · cases hf
  · simp only [Option.some.injEq] at hf
    split at hf
    · rename_i a
      simp only [Bool.and_eq_true, beq_iff_eq] at hf
      obtain ⟨⟨⟨f1, f2⟩, f3⟩, f4⟩ := hf
      subst f1
      match st, h2.2 with
      | [v], ⟨hr, _⟩ =>
      obtain ⟨z, rfl⟩ := q_lng hr f2
      exact hq.2.2 z f3 hdc (q_ret hD hE h6 h1 h3 h4 h5 hw.2.1.1 (.inr ⟨_, _, rfl, rfl, hr⟩) f4)
    · cases hf
  · cases hf
theorem q_one (hB : qB x) (eD : qxD x = D) (hD : qD D) (ems : qxms x = ms) (ecm : ms = c.2.2.2.2.2) (hX : qxok x xr) (htb : qTbk (qxown x) MT tb) (hcon : ∀ c ∈ B, qSem x.1 x.2.2.1 D (qxX x) MT c) (hR : fr ≤ x.2.2.2.2.1.frames ∧ lc ≤ x.2.2.2.2.1.locals) (hnL : qxnL x = nL) (hT : qPgk T (qxcc x) = true) (hE : qEn (qxσ x) (qxw0 x) av ea pa c) (hret : qRt x rk (qPost D x.1 (qxX x) c (qxadr x) (qxw0 x) av))
    {g : AS → Nat → Bool} (hg : ∀ S pc, g S pc = true → qG x S pc) {S : AS} {pc : Nat} (h : qone D ms xr tb MT B fr lc nL rk c ea pa T g S pc = true) : qG x S pc := by
  unfold qone at h
  split at h
  · rename_i i hi
    have hdc : qdc x pc (i.1, i.2) := by
      obtain ⟨γ, p, l, e, R, s, m, args, below, meth, cd, Q, ⟨cc, nL', own⟩, A, D', adr, X, ms', w0, σe⟩ := x
      exact q_pgk hT hi
    split at h
    · rename_i b hb
      exact q_fin eD hD (ems.trans ecm) hE hret hb h hdc
    · split at h
      · rename_i L hL
        rw [List.all_eq_true] at h
        exact q_step hB eD hD ems hX htb hcon hR hnL hL hdc (fun y hy => hg _ _ (h y hy))
      · cases h
  · cases h
theorem q_run (hB : qB x) (eD : qxD x = D) (hD : qD D) (ems : qxms x = ms) (ecm : ms = c.2.2.2.2.2) (hX : qxok x xr) (htb : qTbk (qxown x) MT tb) (hcon : ∀ c ∈ B, qSem x.1 x.2.2.1 D (qxX x) MT c) (hR : fr ≤ x.2.2.2.2.1.frames ∧ lc ≤ x.2.2.2.2.1.locals) (hnL : qxnL x = nL) (hT : qPgk T (qxcc x) = true) (hE : qEn (qxσ x) (qxw0 x) av ea pa c) (hret : qRt x rk (qPost D x.1 (qxX x) c (qxadr x) (qxw0 x) av)) (hth : qTh9 x thr)
    {g : AS → Nat → Bool} (hg : ∀ S pc, g S pc = true → qG x S pc) {S : AS} {pc : Nat} (h : qrun D ms xr tb MT B fr lc nL rk c ea pa T thr sps g S pc = true) : qG x S pc := by
  unfold qrun at h
  split at h
  · rename_i hc
    simp only [Bool.and_eq_true] at h
    obtain ⟨h7, h8⟩ := h
    obtain ⟨γ, p, l, e, R, s, m, args, below, meth, cd, Q, ⟨cc, nL', own⟩, A, D', adr, X, ms', w0, σe⟩ := x
    simp only [qxD] at eD
    subst eD
    obtain ⟨N, ⟨loc, stk⟩, M⟩ := S
    intro σ ρ lv st ls ws H locs hw hl hS
    obtain ⟨h1, h2, h3, h4, h5, h6⟩ := hS
    have hst : stk = [] := by simpa using h7
    subst hst
    match st, h2.2 with
    | [], _ => exact hth pc (by simpa using hc) ws H locs ls lv hw hl (q_H0 hD h1 h3 hw.2.1.1 h8) h4 h5
  · split at h
    · rename_i q hq
      split at h
      · rename_i L hL
        rw [List.all_eq_true] at h
        exact q_split hL (fun U hU => q_one hB eD hD ems ecm hX htb hcon hR hnL hT hE hret hg (h U hU))
      · cases h
    · exact q_one hB eD hD ems ecm hX htb hcon hR hnL hT hE hret hg h
theorem q_go (hB : qB x) (eD : qxD x = D) (hD : qD D) (ems : qxms x = ms) (ecm : ms = c.2.2.2.2.2) (hX : qxok x xr) (htb : qTbk (qxown x) MT tb) (hcon : ∀ c ∈ B, qSem x.1 x.2.2.1 D (qxX x) MT c) (hR : fr ≤ x.2.2.2.2.1.frames ∧ lc ≤ x.2.2.2.2.1.locals) (hnL : qxnL x = nL) (hT : qPgk T (qxcc x) = true) (hE : qEn (qxσ x) (qxw0 x) av ea pa c) (hret : qRt x rk (qPost D x.1 (qxX x) c (qxadr x) (qxw0 x) av)) (hth : qTh9 x thr)
    (hcut : ∀ k ∈ cuts, ∀ S, qcchk D n0 lk n1 L0 S k = true → qG x S k.1) : ∀ (f : Nat) (S : AS) (pc : Nat), qgo D ms xr tb MT B fr lc nL rk c ea pa T thr sps n0 lk cuts n1 L0 f S pc = true → qG x S pc
  | 0, _, _, h => by cases h
  | f + 1, S, pc, h => by
    unfold qgo at h
    split at h
    · rw [List.any_eq_true] at h
      obtain ⟨k, k1, k2⟩ := h
      simp only [Bool.and_eq_true, beq_iff_eq] at k2
      rw [← k2.1]
      exact hcut k k1 S k2.2
    · exact q_run hB eD hD ems ecm hX htb hcon hR hnL hT hE hret hth (fun S pc h => q_go hB eD hD ems ecm hX htb hcon hR hnL hT hE hret hth hcut f S pc h) h
/-- all segments are in order -/
def qsegs (D : qWd) (ms : qMods) (xr : List Nat) (tb : qTb) (MT : List qMt) (B : List qCon) (fr lc nL rk : Nat) (c : qCon) (ea pa : List AV) (T : qPg) (thr : List Nat) (sps : List (Nat × Nat)) (n0 : Nat) (lk : List Nat) (cuts : List qCut) (fu : Nat) : Bool :=
  cuts.all (fun k => qpos k.2.1 k.2.2 && qrun D ms xr tb MT B fr lc nL rk c ea pa T thr sps (qgo D ms xr tb MT B fr lc nL rk c ea pa T thr sps n0 lk cuts k.2.1.1.1.length (some k.2.2) fu) k.2.1 k.1)
end QGO
theorem qEn.mono {σ σ' : qσ} (h : qle1 σ σ') {w0 : va_W} {av : List Value} {ea pa : List AV} {c : qCon} (hE : qEn σ w0 av ea pa c) : qEn σ' w0 av ea pa c :=
  ⟨fun i a ha h1 => (hE.1 i a ha h1).elim (fun x hx => ⟨x, hx.1, q_vlm h hx.2⟩), F2.mono (fun _ _ h1 => h1.elim (fun x hx => ⟨x, hx.1, q_vlm h hx.2⟩)) hE.2⟩
/-- the cuts hold, by their ranks -/
theorem q_cuts {γ : kΓ} {p : Program} {l : Launch} {e : Env} {R : Room} {s : State} {m : MethodId} {args : Array Value} {below : List Frame} {meth : Method} {cd : Code} {Q : State → Prop} {cc : ByteArray} {nL : Nat} {own : String} {A : Nat → Prop} {D : qWd} {adr : List Nat} {X : va_W → Prop} {ms : qMods} {w0 : va_W} {σ0 : qσ}
    {xr : List Nat} {tb : qTb} {MT : List qMt} {B : List qCon} {fr lc rk : Nat} {c : qCon} {ea pa : List AV} {T : qPg} {thr : List Nat} {sps : List (Nat × Nat)} {n0 : Nat} {lk : List Nat} {cuts : List qCut} {fu : Nat} {av : List Value}
    (hB : kC γ p s m args cd cc nL own A) (hD : qD D) (ecm : ms = c.2.2.2.2.2) (hX : ∀ (ws : va_W) (q g a : Nat) (c : va_E), D.1[q]? = some g → ¬ g ∈ xr → ws.map Prod.fst = adr → adr[q]? = some a → X ws → X (ws.set q (a, c))) (htb : qTbk own MT tb) (hcon : ∀ c ∈ B, qSem γ l D X MT c) (hR : fr ≤ R.frames ∧ lc ≤ R.locals) (hT : qPgk T cc = true) (hE : qEn σ0 w0 av ea pa c)
    (hret : ∀ σ : qσ, qRt (γ, p, l, e, R, s, m, args, below, meth, cd, Q, (cc, nL, own), A, D, adr, X, ms, w0, σ) rk (qPost D γ X c adr w0 av)) (hth : ∀ σ : qσ, qTh9 (γ, p, l, e, R, s, m, args, below, meth, cd, Q, (cc, nL, own), A, D, adr, X, ms, w0, σ) thr) (h0 : ∀ v, n0 ≤ v → σ0 v = none)
    (hseg : qsegs D ms xr tb MT B fr lc nL rk c ea pa T thr sps n0 lk cuts fu = true) : ∀ (n : Nat) (k : qCut), k ∈ cuts → ∀ (σ : qσ) (ρ : qρ) (lv : List (Nat × Value)) (st : List Value) (ls : Array Slot) (ws : va_W) (H : Heap) (locs : List Loc) (y : Int), kW γ A ws s H locs → lv_has ls nL lv → qsN D σ k.2.1.1 → qsF σ ρ k.2.1.2.1 lv st → qsM D γ adr σ ρ k.2.1.2.2 ws → X ws → qK D ms w0 ws → qle1 σ0 σ → qlv1 σ k.2.2.2 = some y → (k.2.2.1 + y).toNat < n →
      W p l e R s m args below meth cd H locs 0 0 Q (F0 m k.1 ls st) := by
  intro n
  induction n with
  | zero =>
    intro k hk σ ρ lv st ls ws H locs y hw hl hN hF hM hx hK hσ hy hn
    omega
  | succ n ih =>
    intro k hk σ ρ lv st ls ws H locs y hw hl hN hF hM hx hK hσ hy hn
    have hseg' := hseg
    unfold qsegs at hseg'
    rw [List.all_eq_true] at hseg'
    have hs := hseg' k hk
    simp only [Bool.and_eq_true] at hs
    have hG : qG (γ, p, l, e, R, s, m, args, below, meth, cd, Q, (cc, nL, own), A, D, adr, X, ms, w0, σ) k.2.1 k.1 := by
      refine q_run (x := (γ, p, l, e, R, s, m, args, below, meth, cd, Q, (cc, nL, own), A, D, adr, X, ms, w0, σ)) (av := av) hB rfl hD rfl ecm hX htb hcon hR rfl hT (hE.mono hσ) (hret σ) (hth σ) ?_ hs.2
      intro S pc hS
      refine q_go (x := (γ, p, l, e, R, s, m, args, below, meth, cd, Q, (cc, nL, own), A, D, adr, X, ms, w0, σ)) (av := av) hB rfl hD rfl ecm hX htb hcon hR rfl hT (hE.mono hσ) (hret σ) (hth σ) ?_ fu S pc hS
      intro k' hk' S' hc'
      unfold qcchk at hc'
      simp only [Bool.and_eq_true] at hc'
      intro σ2 ρ2 lv2 st2 ls2 ws2 H2 locs2 hw2 hl2 hS2
      obtain ⟨g1, g2, g3, g4, g5, g6⟩ := hS2
      obtain ⟨lv', f1, f2, f3, f4, f5⟩ := q_sub1 hD g1 g2 g3 hw2.2.1.1 hc'.1
      have hs' := hseg' k' hk'
      simp only [Bool.and_eq_true] at hs'
      obtain ⟨y', y1, y2⟩ := q_pos f2 hs'.1
      have hdec := q_dec g1 y1 (q_lvm g6 hy) hc'.2
      refine ih k' hk' _ _ lv' st2 ls2 ws2 H2 locs2 y' hw2 ⟨hl2.1, hl2.2.1, fun q hq => hl2.2.2 q (f1 q hq)⟩ f2 f3 f4 g4 g5 ?_ y1 ?_
      · intro v z hv
        have hv0 : v < n0 := by
          rcases Nat.lt_or_ge v n0 with h9 | h9
          · exact h9
          · rw [h0 v h9] at hv; cases hv
        rw [f5 v hv0]
        exact g6 _ _ (hσ _ _ hv)
      · omega
    exact hG σ ρ lv st ls ws H locs hw hl ⟨hN, hF, hM, hx, hK, qle1.refl _⟩

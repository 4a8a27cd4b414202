/-! the machine over abstract states: simple instructions -/
abbrev qCx : Type := kΓ × Program × Launch × Env × Room × State × MethodId × Array Value × List Frame × Method × Code × (State → Prop) × (ByteArray × Nat × String) × (Nat → Prop) × qWd × List Nat × (va_W → Prop) × qMods × va_W × qσ
def qS (x : qCx) (S : AS) (σ : qσ) (ρ : qρ) (lv : List (Nat × Value)) (st : List Value) (ws : va_W) : Prop :=
  match x with
  | (γ, _, _, _, _, _, _, _, _, _, _, _, _, _, D, adr, X, ms, w0, σe) => qsN D σ S.1 ∧ qsF σ ρ S.2.1 lv st ∧ qsM D γ adr σ ρ S.2.2 ws ∧ X ws ∧ qK D ms w0 ws ∧ qle1 σe σ
def qWp (x : qCx) (H : Heap) (locs : List Loc) (pc : Nat) (ls : Array Slot) (st : List Value) : Prop :=
  match x with
  | (_, p, l, e, R, s, m, args, below, meth, c, Q, _) => W p l e R s m args below meth c H locs 0 0 Q (F0 m pc ls st)
def qkW (x : qCx) (ws : va_W) (H : Heap) (locs : List Loc) : Prop :=
  match x with
  | (γ, _, _, _, _, s, _, _, _, _, _, _, _, A, _) => kW γ A ws s H locs
def qlv (x : qCx) (ls : Array Slot) (lv : List (Nat × Value)) : Prop :=
  match x with
  | (_, _, _, _, _, _, _, _, _, _, _, _, (_, nL, _), _) => lv_has ls nL lv
def qdc (x : qCx) (pc : Nat) (i : Instr × Nat) : Prop :=
  match x with
  | (_, _, _, _, _, _, _, _, _, _, _, _, (cc, _, _), _) => decode cc pc = .ok i
def qB (x : qCx) : Prop :=
  match x with
  | (γ, p, _, _, _, s, m, args, _, _, c, _, (cc, nL, own), A, _) => kC γ p s m args c cc nL own A
def qG (x : qCx) (S : AS) (pc : Nat) : Prop := ∀ (σ : qσ) (ρ : qρ) (lv : List (Nat × Value)) (st : List Value) (ls : Array Slot) (ws : va_W) (H : Heap) (locs : List Loc), qkW x ws H locs → qlv x ls lv → qS x S σ ρ lv st ws → qWp x H locs pc ls st
abbrev qSu : Type := List (AS × Nat)
def qOk (x : qCx) (L : qSu) : Prop := ∀ y ∈ L, qG x y.1 y.2
theorem qOk1 {x : qCx} {S : AS} {pc : Nat} (h : qOk x [(S, pc)]) : qG x S pc := h _ List.mem_cons_self
/-- loads -/
def qs_ld (t : Nat → Bool) (S : AS) (i pc len : Nat) : Option qSu :=
  match S.2.1.1.find? (fun q => q.1 == i && t q.2.1) with
  | some q => some [((S.1, (S.2.1.1, q.2 :: S.2.1.2), S.2.2), pc + len)]
  | none => none
theorem q_find {σ : qσ} {ρ : qρ} {t : Nat → Bool} {i nL : Nat} {loc : List (Nat × AV)} {lv : List (Nat × Value)} {ls : Array Slot} (hl : lv_has ls nL lv) (h : F2 (fun x y => x.1 = y.1 ∧ qR σ ρ x.2 y.2) loc lv) {q : Nat × AV} (hq : loc.find? (fun q => q.1 == i && t q.2.1) = some q) : ∃ v, ls[i]? = some (.val v) ∧ qR σ ρ q.2 v ∧ t q.2.1 = true := by
  have h1 := List.find?_some hq
  simp only [Bool.and_eq_true, beq_iff_eq] at h1
  obtain ⟨⟨j, v⟩, h2, h3, h4⟩ := F2.mem h (List.mem_of_find?_eq_some hq)
  refine ⟨v, ?_, h4, h1.2⟩
  have := hl.2.2 _ h2
  simp only at this h3
  rw [← h1.1, h3]; exact this
theorem qs_ldI {x : qCx} (hB : qB x) {S : AS} {i pc len : Nat} {L : qSu} (hs : qs_ld (fun t => Nat.ble t 1) S i pc len = some L) (hd : (∃ k : Fin 4, (k : Nat) = i ∧ qdc x pc (.iload_n k, 1) ∧ len = 1) ∨ (qdc x pc (.iload i, 2) ∧ len = 2)) (h : qOk x L) : qG x S pc := by
  obtain ⟨γ, p, l, e, R, s, m, args, below, meth, c, Q, ⟨cc, nL, own⟩, A, D, adr, X, ms, w0, σe⟩ := x
  unfold qs_ld at hs
  split at hs
  · rename_i q hq
    cases hs
    have hG := qOk1 h
    intro σ ρ lv st ls ws H locs hw hl hS
    obtain ⟨v, h1, h2, h3⟩ := q_find (i := i) (t := fun t => Nat.ble t 1) hl hS.2.1.1 hq
    have h4 : ∃ z : Int32, v = .int z := by
      rcases h2 with ⟨_, z, _, e, _⟩ | ⟨_, z, e, _⟩ | ⟨t, _⟩ | ⟨t, _⟩
      · exact ⟨z, e⟩
      · exact ⟨z, e⟩
      · rw [t] at h3; cases h3
      · rw [t] at h3; cases h3
    obtain ⟨z, rfl⟩ := h4
    have hk := hG σ ρ lv (.int z :: st) ls ws H locs hw hl ⟨hS.1, ⟨hS.2.1.1, h2, hS.2.1.2⟩, hS.2.2⟩
    rcases hd with ⟨k, hi, hdc, rfl⟩ | ⟨hdc, rfl⟩
    · exact lv_iload_n hB.1 hB.2.1 hdc hi h1 hk
    · exact lv_iload hB.1 hB.2.1 hdc h1 hk
  · cases hs
theorem qs_ldA {x : qCx} (hB : qB x) {S : AS} {i pc len : Nat} {L : qSu} (hs : qs_ld (fun t => t == 3) S i pc len = some L) (hd : (∃ k : Fin 4, (k : Nat) = i ∧ qdc x pc (.aload_n k, 1) ∧ len = 1) ∨ (qdc x pc (.aload i, 2) ∧ len = 2)) (h : qOk x L) : qG x S pc := by
  obtain ⟨γ, p, l, e, R, s, m, args, below, meth, c, Q, ⟨cc, nL, own⟩, A, D, adr, X, ms, w0, σe⟩ := x
  unfold qs_ld at hs
  split at hs
  · rename_i q hq
    cases hs
    have hG := qOk1 h
    intro σ ρ lv st ls ws H locs hw hl hS
    obtain ⟨v, h1, h2, h3⟩ := q_find (i := i) (t := fun t => t == 3) hl hS.2.1.1 hq
    have h4 : ∃ z : Nat, v = .ref z := by
      rcases h2 with ⟨t, _⟩ | ⟨t, _⟩ | ⟨t, _⟩ | ⟨_, z, e, _⟩
      · rw [t] at h3; cases h3
      · rw [t] at h3; cases h3
      · rw [t] at h3; cases h3
      · exact ⟨z, e⟩
    obtain ⟨z, rfl⟩ := h4
    have hk := hG σ ρ lv (.ref z :: st) ls ws H locs hw hl ⟨hS.1, ⟨hS.2.1.1, h2, hS.2.1.2⟩, hS.2.2⟩
    rcases hd with ⟨k, hi, hdc, rfl⟩ | ⟨hdc, rfl⟩
    · exact lv_aload_n hB.1 hB.2.1 hdc hi h1 hk
    · exact lv_aload hB.1 hB.2.1 hdc h1 hk
  · cases hs
theorem qs_ldL {x : qCx} (hB : qB x) {S : AS} {i pc len : Nat} {L : qSu} (hs : qs_ld (fun t => t == 2) S i pc len = some L) (hd : (∃ k : Fin 4, (k : Nat) = i ∧ qdc x pc (.lload_n k, 1) ∧ len = 1) ∨ (qdc x pc (.lload i, 2) ∧ len = 2)) (h : qOk x L) : qG x S pc := by
  obtain ⟨γ, p, l, e, R, s, m, args, below, meth, c, Q, ⟨cc, nL, own⟩, A, D, adr, X, ms, w0, σe⟩ := x
  unfold qs_ld at hs
  split at hs
  · rename_i q hq
    cases hs
    have hG := qOk1 h
    intro σ ρ lv st ls ws H locs hw hl hS
    obtain ⟨v, h1, h2, h3⟩ := q_find (i := i) (t := fun t => t == 2) hl hS.2.1.1 hq
    have h4 : ∃ z : Int64, v = .long z := by
      rcases h2 with ⟨t, _⟩ | ⟨t, _⟩ | ⟨_, z, e, _⟩ | ⟨t, _⟩
      · rw [t] at h3; cases h3
      · rw [t] at h3; cases h3
      · exact ⟨z, e⟩
      · rw [t] at h3; cases h3
    obtain ⟨z, rfl⟩ := h4
    have hk := hG σ ρ lv (.long z :: st) ls ws H locs hw hl ⟨hS.1, ⟨hS.2.1.1, h2, hS.2.1.2⟩, hS.2.2⟩
    rcases hd with ⟨k, hi, hdc, rfl⟩ | ⟨hdc, rfl⟩
    · exact lv_lload_n hB.1 hB.2.1 hdc hi h1 hk
    · exact lv_lload hB.1 hB.2.1 hdc h1 hk
  · cases hs
/-- constants -/
def qs_c (S : AS) (n : Int) (pc len : Nat) : Option qSu := some [((S.1, (S.2.1.1, (1, 0, n) :: S.2.1.2), S.2.2), pc + len)]
theorem qs_cI {x : qCx} {S : AS} {n : Int} {pc len : Nat} {L : qSu} (hs : qs_c S n pc len = some L) {v : Int32} (hv : v.toInt = n) (hd : ∀ (H : Heap) (locs : List Loc) (ls : Array Slot) (st : List Value), qWp x H locs (pc + len) ls (.int v :: st) → qWp x H locs pc ls st) (h : qOk x L) : qG x S pc := by
  obtain ⟨γ, p, l, e, R, s, m, args, below, meth, c, Q, ⟨cc, nL, own⟩, A, D, adr, X, ms, w0, σe⟩ := x
  cases hs
  have hG := qOk1 h
  intro σ ρ lv st ls ws H locs hw hl hS
  exact hd H locs ls st (hG σ ρ lv (.int v :: st) ls ws H locs hw hl ⟨hS.1, ⟨hS.2.1.1, .inr (.inl ⟨rfl, v, rfl, hv⟩), hS.2.1.2⟩, hS.2.2⟩)
def qs_cl (S : AS) (n : Int) (pc len : Nat) : Option qSu := some [((( qfrL S.1 (n, n)).1, (S.2.1.1, (qfrL S.1 (n, n)).2 :: S.2.1.2), S.2.2), pc + len)]
theorem qs_cL {x : qCx} {S : AS} {n : Int} {pc len : Nat} {L : qSu} (hs : qs_cl S n pc len = some L) {v : Int64} (hv : v.toInt = n) (hd : ∀ (H : Heap) (locs : List Loc) (ls : Array Slot) (st : List Value), qWp x H locs (pc + len) ls (.long v :: st) → qWp x H locs pc ls st) (h : qOk x L) : qG x S pc := by
  obtain ⟨γ, p, l, e, R, s, m, args, below, meth, c, Q, ⟨cc, nL, own⟩, A, D, adr, X, ms, w0, σe⟩ := x
  cases hs
  have hG := qOk1 h
  intro σ ρ lv st ls ws H locs hw hl hS
  obtain ⟨σ', h1, h2, h3⟩ := q_frL (ρ := ρ) hS.1 (iv := (n, n)) (x := v) (by simp only [qIn]; omega)
  have hF := hS.2.1.mono h1 (fun _ _ h => h)
  exact hd H locs ls st (hG σ' ρ lv (.long v :: st) ls ws H locs hw hl ⟨h2, ⟨hF.1, h3, hF.2⟩, hS.2.2.1.monoσ h1, hS.2.2.2.1, hS.2.2.2.2.1, fun v x hv => h1 v x (hS.2.2.2.2.2 v x hv)⟩)
/-- stores -/
def qst1 (loc : List (Nat × AV)) (i : Nat) (a : AV) : List (Nat × AV) := (i, a) :: loc.filter (fun q => !(q.1 == i) && !(q.1 + 1 == i && q.2.1 == 2))
def qst2 (loc : List (Nat × AV)) (i : Nat) (a : AV) : List (Nat × AV) := (i, a) :: loc.filter (fun q => !(q.1 == i) && (!(q.1 == i + 1) && !(q.1 + 1 == i && q.2.1 == 2)))
def qs_st (t : Nat → Bool) (S : AS) (nL i pc len : Nat) : Option qSu :=
  match S.2.1.2 with
  | a :: stk => if t a.1 && Nat.blt i nL then some [((S.1, (qst1 S.2.1.1 i a, stk), S.2.2), pc + len)] else none
  | [] => none
theorem q_st1 {σ : qσ} {ρ : qρ} {loc : List (Nat × AV)} {lv : List (Nat × Value)} (h : F2 (fun x y => x.1 = y.1 ∧ qR σ ρ x.2 y.2) loc lv) {i : Nat} {a : AV} {v : Value} (hr : qR σ ρ a v) : F2 (fun x y => x.1 = y.1 ∧ qR σ ρ x.2 y.2) (qst1 loc i a) ((i, v) :: lv.filter (fun q => !(q.1 == i) && !(q.1 + 1 == i && q.2.category == 2))) :=
  ⟨⟨rfl, hr⟩, F2.filter _ _ (fun a b hab => by rw [hab.1, hab.2.cat.1]) h⟩
theorem q_st2 {σ : qσ} {ρ : qρ} {loc : List (Nat × AV)} {lv : List (Nat × Value)} (h : F2 (fun x y => x.1 = y.1 ∧ qR σ ρ x.2 y.2) loc lv) {i : Nat} {a : AV} {v : Value} (hr : qR σ ρ a v) : F2 (fun x y => x.1 = y.1 ∧ qR σ ρ x.2 y.2) (qst2 loc i a) ((i, v) :: lv.filter (fun q => !(q.1 == i) && (!(q.1 == i + 1) && !(q.1 + 1 == i && q.2.category == 2)))) :=
  ⟨⟨rfl, hr⟩, F2.filter _ _ (fun a b hab => by rw [hab.1, hab.2.cat.1]) h⟩
theorem qs_stI {x : qCx} (hB : qB x) {S : AS} {i pc len nL : Nat} (hnL : x.2.2.2.2.2.2.2.2.2.2.2.2.1.2.1 = nL) {L : qSu} (hs : qs_st (fun t => Nat.ble t 1) S nL i pc len = some L) (hd : (∃ k : Fin 4, (k : Nat) = i ∧ qdc x pc (.istore_n k, 1) ∧ len = 1) ∨ (qdc x pc (.istore i, 2) ∧ len = 2)) (h : qOk x L) : qG x S pc := by
  obtain ⟨γ, p, l, e, R, s, m, args, below, meth, c, Q, ⟨cc, nL', own⟩, A, D, adr, X, ms, w0, σe⟩ := x
  simp only at hnL
  subst hnL
  obtain ⟨N, ⟨loc, stk⟩, M⟩ := S
  unfold qs_st at hs
  split at hs
  · rename_i a stk' heq
    simp only at heq
    subst heq
    split at hs
    · rename_i hc
      cases hs
      simp only [Bool.and_eq_true, Nat.blt_eq] at hc
      have hG := qOk1 h
      intro σ ρ lv st ls ws H locs hw hl hS
      obtain ⟨h1, h2, h3⟩ := hS
      match st, h2.2 with
      | v :: st, ⟨hr, h4⟩ =>
      have h5 : ∃ z : Int32, v = .int z := by
        rcases hr with ⟨_, z, _, e, _⟩ | ⟨_, z, e, _⟩ | ⟨t, _⟩ | ⟨t, _⟩
        · exact ⟨z, e⟩
        · exact ⟨z, e⟩
        · rw [t] at hc; exact absurd hc.1 (by decide)
        · rw [t] at hc; exact absurd hc.1 (by decide)
      obtain ⟨z, rfl⟩ := h5
      have hk : ∀ ls' : Array Slot, lv_has ls' nL' ((i, .int z) :: lv.filter (fun q => !(q.1 == i) && !(q.1 + 1 == i && q.2.category == 2))) → qWp (γ, p, l, e, R, s, m, args, below, meth, c, Q, (cc, nL', own), A, D, adr, X, ms, w0, σe) H locs (pc + len) ls' st :=
        fun ls' hl' => hG σ ρ _ st ls' ws H locs hw hl' ⟨h1, ⟨q_st1 h2.1 hr, h4⟩, h3⟩
      rcases hd with ⟨k, hi, hdc, rfl⟩ | ⟨hdc, rfl⟩
      · exact lv_istore_n hB.1 hB.2.1 hdc hi hl hc.2 rfl hk
      · exact lv_istore hB.1 hB.2.1 hdc hl hc.2 rfl hk
    · cases hs
  · cases hs
theorem qs_stA {x : qCx} (hB : qB x) {S : AS} {i pc len nL : Nat} (hnL : x.2.2.2.2.2.2.2.2.2.2.2.2.1.2.1 = nL) {L : qSu} (hs : qs_st (fun t => t == 3) S nL i pc len = some L) (hd : (∃ k : Fin 4, (k : Nat) = i ∧ qdc x pc (.astore_n k, 1) ∧ len = 1) ∨ (qdc x pc (.astore i, 2) ∧ len = 2)) (h : qOk x L) : qG x S pc := by
  obtain ⟨γ, p, l, e, R, s, m, args, below, meth, c, Q, ⟨cc, nL', own⟩, A, D, adr, X, ms, w0, σe⟩ := x
  simp only at hnL
  subst hnL
  obtain ⟨N, ⟨loc, stk⟩, M⟩ := S
  unfold qs_st at hs
  split at hs
  · rename_i a stk' heq
    simp only at heq
    subst heq
    split at hs
    · rename_i hc
      cases hs
      simp only [Bool.and_eq_true, Nat.blt_eq] at hc
      have hG := qOk1 h
      intro σ ρ lv st ls ws H locs hw hl hS
      obtain ⟨h1, h2, h3⟩ := hS
      match st, h2.2 with
      | v :: st, ⟨hr, h4⟩ =>
      have h5 : ∃ z : Nat, v = .ref z := by
        rcases hr with ⟨t, _⟩ | ⟨t, _⟩ | ⟨t, _⟩ | ⟨_, z, e, _⟩
        · rw [t] at hc; exact absurd hc.1 (by decide)
        · rw [t] at hc; exact absurd hc.1 (by decide)
        · rw [t] at hc; exact absurd hc.1 (by decide)
        · exact ⟨z, e⟩
      obtain ⟨z, rfl⟩ := h5
      have hk : ∀ ls' : Array Slot, lv_has ls' nL' ((i, .ref z) :: lv.filter (fun q => !(q.1 == i) && !(q.1 + 1 == i && q.2.category == 2))) → qWp (γ, p, l, e, R, s, m, args, below, meth, c, Q, (cc, nL', own), A, D, adr, X, ms, w0, σe) H locs (pc + len) ls' st :=
        fun ls' hl' => hG σ ρ _ st ls' ws H locs hw hl' ⟨h1, ⟨q_st1 h2.1 hr, h4⟩, h3⟩
      rcases hd with ⟨k, hi, hdc, rfl⟩ | ⟨hdc, rfl⟩
      · exact lv_astore_n hB.1 hB.2.1 hdc hi hl hc.2 rfl hk
      · exact lv_astore hB.1 hB.2.1 hdc hl hc.2 rfl hk
    · cases hs
  · cases hs
def qs_sl (S : AS) (nL i pc len : Nat) : Option qSu :=
  match S.2.1.2 with
  | a :: stk => if a.1 == 2 && Nat.blt (i + 1) nL then some [((S.1, (qst2 S.2.1.1 i a, stk), S.2.2), pc + len)] else none
  | [] => none
theorem qs_stL {x : qCx} (hB : qB x) {S : AS} {i pc len nL : Nat} (hnL : x.2.2.2.2.2.2.2.2.2.2.2.2.1.2.1 = nL) {L : qSu} (hs : qs_sl S nL i pc len = some L) (hd : (∃ k : Fin 4, (k : Nat) = i ∧ qdc x pc (.lstore_n k, 1) ∧ len = 1) ∨ (qdc x pc (.lstore i, 2) ∧ len = 2)) (h : qOk x L) : qG x S pc := by
  obtain ⟨γ, p, l, e, R, s, m, args, below, meth, c, Q, ⟨cc, nL', own⟩, A, D, adr, X, ms, w0, σe⟩ := x
  simp only at hnL
  subst hnL
  obtain ⟨N, ⟨loc, stk⟩, M⟩ := S
  unfold qs_sl at hs
  split at hs
  · rename_i a stk' heq
    simp only at heq
    subst heq
    split at hs
    · rename_i hc
      cases hs
      simp only [Bool.and_eq_true, Nat.blt_eq] at hc
      have hG := qOk1 h
      intro σ ρ lv st ls ws H locs hw hl hS
      obtain ⟨h1, h2, h3⟩ := hS
      match st, h2.2 with
      | v :: st, ⟨hr, h4⟩ =>
      have h5 : ∃ z : Int64, v = .long z := by
        rcases hr with ⟨t, _⟩ | ⟨t, _⟩ | ⟨_, z, e, _⟩ | ⟨t, _⟩
        · rw [t] at hc; exact absurd hc.1 (by decide)
        · rw [t] at hc; exact absurd hc.1 (by decide)
        · exact ⟨z, e⟩
        · rw [t] at hc; exact absurd hc.1 (by decide)
      obtain ⟨z, rfl⟩ := h5
      have hk : ∀ ls' : Array Slot, lv_has ls' nL' ((i, .long z) :: lv.filter (fun q => !(q.1 == i) && (!(q.1 == i + 1) && !(q.1 + 1 == i && q.2.category == 2)))) → qWp (γ, p, l, e, R, s, m, args, below, meth, c, Q, (cc, nL', own), A, D, adr, X, ms, w0, σe) H locs (pc + len) ls' st :=
        fun ls' hl' => hG σ ρ _ st ls' ws H locs hw hl' ⟨h1, ⟨q_st2 h2.1 hr, h4⟩, h3⟩
      rcases hd with ⟨k, hi, hdc, rfl⟩ | ⟨hdc, rfl⟩
      · exact lv_lstore_n hB.1 hB.2.1 hdc hi hl hc.2 rfl hk
      · exact lv_lstore hB.1 hB.2.1 hdc hl hc.2 rfl hk
    · cases hs
  · cases hs

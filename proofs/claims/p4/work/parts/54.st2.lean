/-! arithmetic, stack, branches -/
def qaddc (N : qN) (a : AV) (n : Int) : Option AV :=
  if a.1 = 1 then (if qle i32lo (a.2.2 + n) && qle (a.2.2 + n) i32hi then some (1, 0, a.2.2 + n) else none)
  else if a.1 = 0 then (match N.1[a.2.1]? with
    | some p => if qle i32lo (p.1 + (a.2.2 + n)) && qle (p.2 + (a.2.2 + n)) i32hi then some (0, a.2.1, a.2.2 + n) else none
    | none => none)
  else none
theorem q_addc {D : qWd} {σ : qσ} {ρ : qρ} {N : qN} (h : qsN D σ N) {a r : AV} {x z : Int32} {n : Int} (hr : qR σ ρ a (.int x)) (hz : z.toInt = (x.toInt + n).bmod (2 ^ 32)) (hq : qaddc N a n = some r) : qR σ ρ r (.int z) := by
  unfold qaddc at hq
  rcases hr with ⟨t, x', y, e, hs, hx⟩ | ⟨t, x', e, hx⟩ | ⟨t, x', e, hs⟩ | ⟨t, n, e, hs⟩
  · cases e
    rw [t] at hq
    simp only [Nat.zero_ne_one, if_false, if_true] at hq
    split at hq
    · rename_i p hp
      split at hq
      · rename_i hc
        simp only [qle, Bool.and_eq_true, decide_eq_true_eq] at hc
        cases hq
        obtain ⟨w, h3, h4⟩ := h.2.1 _ _ hp
        rw [hs] at h3
        cases h3
        simp only [qIn] at h4
        refine .inl ⟨rfl, z, y, rfl, hs, ?_⟩
        rw [hz, q_bmod (by omega) (by omega)]
        show _ = y + (a.2.2 + n)
        omega
      · cases hq
    · cases hq
  · cases e
    rw [t] at hq
    simp only [if_true] at hq
    split at hq
    · rename_i hc
      simp only [qle, Bool.and_eq_true, decide_eq_true_eq] at hc
      cases hq
      refine .inr (.inl ⟨rfl, z, rfl, ?_⟩)
      rw [hz, hx, q_bmod hc.1 hc.2]
    · cases hq
  · cases e
  · cases e
/-- a difference, by what is known of it -/
def qdl (a b : AV) : List (Nat × Nat × Int) → Int → Int
  | [], m => m
  | r :: l, m => qdl a b l (if r.1 == a.2.1 && r.2.1 == b.2.1 then qmax m (r.2.2 + a.2.2 - b.2.2) else m)
theorem q_dl {σ : qσ} {a b : AV} {u w : Int} (ha : σ a.2.1 = some u) (hb : σ b.2.1 = some w) : ∀ {l : List (Nat × Nat × Int)} {m : Int}, (∀ a b d, (a, b, d) ∈ l → ∃ x y, σ a = some x ∧ σ b = some y ∧ y + d ≤ x) → m ≤ (u + a.2.2) - (w + b.2.2) → qdl a b l m ≤ (u + a.2.2) - (w + b.2.2)
  | [], _, _, h => h
  | r :: l, m, hl, h => by
    unfold qdl
    refine q_dl ha hb (fun a b d hm => hl a b d (List.mem_cons_of_mem _ hm)) ?_
    split
    · rename_i hc
      simp only [Bool.and_eq_true, beq_iff_eq] at hc
      obtain ⟨x, y, h1, h2, h3⟩ := hl r.1 r.2.1 r.2.2 List.mem_cons_self
      rw [hc.1, ha] at h1
      rw [hc.2, hb] at h2
      cases h1; cases h2
      simp only [qmax]
      split <;> omega
    · exact h
def qsubR (N : qN) (a b : AV) : Option (qN × AV) :=
  if a.1 = 0 ∧ b.1 = 0 then (if a.2.1 = b.2.1 then (if qle i32lo (a.2.2 - b.2.2) && qle (a.2.2 - b.2.2) i32hi then some (N, (1, 0, a.2.2 - b.2.2)) else none)
    else (match qiv N a, qiv N b with
      | some p, some q => if qle i32lo (p.1 - q.2) && qle (p.2 - q.1) i32hi then some (qfr N (qdl a b N.2.1 (p.1 - q.2), p.2 - q.1)) else none
      | _, _ => none)) else none
def qres2 (N : qN) (op : qIv → qIv → qIv) (a b : AV) : Option (qN × AV) :=
  match qiv N a, qiv N b with
  | some p, some q => some (qfr N (op p q))
  | _, _ => none
def qbin (k : Nat) (N : qN) (a b : AV) : Option (qN × AV) :=
  match k with
  | 0 => (match (if b.1 = 1 then qaddc N a b.2.2 else if a.1 = 1 then qaddc N b a.2.2 else none) with
    | some r => some (N, r)
    | none => qres2 N (fun p q => qclip (qadd p q)) a b)
  | 1 => (match (if b.1 = 1 then qaddc N a (-b.2.2) else none) with
    | some r => some (N, r)
    | none => (match qsubR N a b with
      | some r => some r
      | none => qres2 N (fun p q => qclip (qsub p q)) a b))
  | 2 => qres2 N (fun p q => qclip (qmul p q)) a b
  | 3 => qres2 N qand a b
  | 4 => qres2 N qor a b
  | 5 => qres2 N qxor a b
  | 6 => qres2 N qshl a b
  | 7 => qres2 N qshr a b
  | 8 => qres2 N qushr a b
  | 9 => (match qiv N b with
    | some q => if qle 1 q.1 then qres2 N qdiv a b else none
    | none => none)
  | 10 => (match qiv N b with
    | some q => if qle 1 q.1 then qres2 N qrem a b else none
    | none => none)
  | _ => none
def qfun (k : Nat) (x y : Int32) : Int32 :=
  match k with
  | 0 => x + y
  | 1 => x - y
  | 2 => x * y
  | 3 => x &&& y
  | 4 => x ||| y
  | 5 => x ^^^ y
  | 6 => x <<< (y &&& 31)
  | 7 => x >>> (y &&& 31)
  | 8 => (x.toUInt32 >>> (y.toUInt32 &&& Int32.toUInt32 31)).toInt32
  | 9 => x / y
  | 10 => x - x / y * y
  | _ => x
theorem q_res2 {D : qWd} {σ : qσ} {ρ : qρ} {N : qN} (h : qsN D σ N) {op : qIv → qIv → qIv} {a b : AV} {x y z : Int32} (ha : qR σ ρ a (.int x)) (hb : qR σ ρ b (.int y)) (hop : ∀ p q : qIv, qIn p x.toInt → qIn q y.toInt → qIn (op p q) z.toInt) {r : qN × AV} (hr : qres2 N op a b = some r) : ∃ σ', qle1 σ σ' ∧ qsN D σ' r.1 ∧ qR σ' ρ r.2 (.int z) := by
  unfold qres2 at hr
  split at hr
  · rename_i p q hp hq
    cases hr
    obtain ⟨x', e1, i1⟩ := q_iv h ha hp
    obtain ⟨y', e2, i2⟩ := q_iv h hb hq
    cases e1; cases e2
    exact q_fr h (hop p q i1 i2)
  · cases hr
theorem q_same {D : qWd} {σ : qσ} {ρ : qρ} {N : qN} (h : qsN D σ N) {a : AV} {v : Value} (ha : qR σ ρ a v) {r : qN × AV} (hr : some (N, a) = some r) : ∃ σ', qle1 σ σ' ∧ qsN D σ' r.1 ∧ qR σ' ρ r.2 v := by
  cases hr; exact ⟨σ, fun _ _ h => h, h, ha⟩
theorem q_cst {σ : qσ} {ρ : qρ} {b : AV} {y : Int32} (h1 : b.1 = 1) (hb : qR σ ρ b (.int y)) : y.toInt = b.2.2 := by
  rcases hb with ⟨t, _⟩ | ⟨_, x, e, hx⟩ | ⟨t, _⟩ | ⟨t, _⟩
  · rw [h1] at t; cases t
  · cases e; exact hx
  · rw [h1] at t; cases t
  · rw [h1] at t; cases t
theorem q_v0 {σ : qσ} {ρ : qρ} {a : AV} {x : Int32} (h : qR σ ρ a (.int x)) (h0 : a.1 = 0) : ∃ y, σ a.2.1 = some y ∧ x.toInt = y + a.2.2 := by
  rcases h with ⟨_, x', y, e, hs, hx⟩ | ⟨t, _⟩ | ⟨t, _⟩ | ⟨t, _⟩
  · cases e; exact ⟨y, hs, hx⟩
  · rw [h0] at t; cases t
  · rw [h0] at t; cases t
  · rw [h0] at t; cases t
theorem q_subR {D : qWd} {σ : qσ} {ρ : qρ} {N : qN} (h : qsN D σ N) {a b : AV} {x y : Int32} (ha : qR σ ρ a (.int x)) (hb : qR σ ρ b (.int y)) {r : qN × AV} (hr : qsubR N a b = some r) : ∃ σ', qle1 σ σ' ∧ qsN D σ' r.1 ∧ qR σ' ρ r.2 (.int (x - y)) := by
  unfold qsubR at hr
  split at hr
  · rename_i h0
    obtain ⟨u, hu, ex⟩ := q_v0 ha h0.1
    obtain ⟨w, hw, ey⟩ := q_v0 hb h0.2
    split at hr
    · rename_i hv
      split at hr
      · rename_i hc
        simp only [qle, Bool.and_eq_true, decide_eq_true_eq] at hc
        cases hr
        rw [hv, hw] at hu
        cases hu
        refine ⟨σ, fun _ _ h => h, h, .inr (.inl ⟨rfl, x - y, rfl, ?_⟩)⟩
        rw [q_subT, show x.toInt - y.toInt = a.2.2 - b.2.2 by omega, q_bmod hc.1 hc.2]
      · cases hr
    · split at hr
      · rename_i p q hp hq
        split at hr
        · rename_i hc
          simp only [qle, Bool.and_eq_true, decide_eq_true_eq] at hc
          cases hr
          obtain ⟨x', e1, i1⟩ := q_iv h ha hp
          obtain ⟨y', e2, i2⟩ := q_iv h hb hq
          cases e1; cases e2
          simp only [qIn] at i1 i2
          have hd := q_dl (a := a) (b := b) hu hw (l := N.2.1) (m := p.1 - q.2) h.2.2.1 (by omega)
          have he : (x - y).toInt = x.toInt - y.toInt := by rw [q_subT, q_bmod (by omega) (by omega)]
          exact q_fr h (by rw [he]; simp only [qIn]; omega)
        · cases hr
      · cases hr
  · cases hr
theorem q_bin {D : qWd} {σ : qσ} {ρ : qρ} {N : qN} (h : qsN D σ N) (k : Nat) {a b : AV} {x y : Int32} (ha : qR σ ρ a (.int x)) (hb : qR σ ρ b (.int y)) {r : qN × AV} (hr : qbin k N a b = some r) : (9 ≤ k → ¬ y = 0) ∧ ∃ σ', qle1 σ σ' ∧ qsN D σ' r.1 ∧ qR σ' ρ r.2 (.int (qfun k x y)) := by
  unfold qbin at hr
  split at hr
  · refine ⟨by omega, ?_⟩
    split at hr
    · rename_i r' hq
      split at hq
      · rename_i h1
        exact q_same h (q_addc (z := x + y) h ha (by rw [q_addT, q_cst h1 hb]) hq) hr
      · split at hq
        · rename_i h1
          exact q_same h (q_addc (z := x + y) h hb (by rw [q_addT, q_cst h1 ha, Int.add_comm]) hq) hr
        · cases hq
    · exact q_res2 h ha hb (fun p q h1 h2 => q_clip (q_addT x y) (q_add h1 h2)) hr
  · refine ⟨by omega, ?_⟩
    split at hr
    · rename_i r' hq
      split at hq
      · rename_i h1
        exact q_same h (q_addc (z := x - y) h ha (by rw [q_subT, q_cst h1 hb, Int.sub_eq_add_neg]) hq) hr
      · cases hq
    · split at hr
      · rename_i r' hq
        cases hr
        exact q_subR h ha hb hq
      · exact q_res2 h ha hb (fun p q h1 h2 => q_clip (q_subT x y) (q_sub h1 h2)) hr
  · exact ⟨by omega, q_res2 h ha hb (fun p q h1 h2 => q_clip (q_mulT x y) (q_mul h1 h2)) hr⟩
  · exact ⟨by omega, q_res2 h ha hb (fun p q h1 h2 => q_and h1 h2) hr⟩
  · exact ⟨by omega, q_res2 h ha hb (fun p q h1 h2 => q_or h1 h2) hr⟩
  · exact ⟨by omega, q_res2 h ha hb (fun p q h1 h2 => q_xor h1 h2) hr⟩
  · exact ⟨by omega, q_res2 h ha hb (fun p q h1 h2 => q_shl h1 h2) hr⟩
  · exact ⟨by omega, q_res2 h ha hb (fun p q h1 h2 => q_shr h1 h2) hr⟩
  · exact ⟨by omega, q_res2 h ha hb (fun p q h1 h2 => q_ushr h1 h2) hr⟩
  · split at hr
    · rename_i q hq
      split at hr
      · rename_i hc
        simp only [qle, decide_eq_true_eq] at hc
        obtain ⟨y', e2, i2⟩ := q_iv h hb hq
        cases e2
        refine ⟨fun _ e => ?_, q_res2 h ha hb (fun p q h1 h2 => q_div h1 h2) hr⟩
        subst e
        have := i2.1
        simp at this
        omega
      · cases hr
    · cases hr
  · split at hr
    · rename_i q hq
      split at hr
      · rename_i hc
        simp only [qle, decide_eq_true_eq] at hc
        obtain ⟨y', e2, i2⟩ := q_iv h hb hq
        cases e2
        refine ⟨fun _ e => ?_, q_res2 h ha hb (fun p q h1 h2 => q_rem h1 h2) hr⟩
        subst e
        have := i2.1
        simp at this
        omega
      · cases hr
    · cases hr
  · cases hr
/-- a value that is an int -/
def qint (a : AV) : Bool := Nat.ble a.1 1
theorem q_int {σ : qσ} {ρ : qρ} {a : AV} {v : Value} (hr : qR σ ρ a v) (h : qint a = true) : ∃ z : Int32, v = .int z := by
  rcases hr with ⟨_, z, _, e, _⟩ | ⟨_, z, e, _⟩ | ⟨t, _⟩ | ⟨t, _⟩
  · exact ⟨z, e⟩
  · exact ⟨z, e⟩
  · unfold qint at h; rw [t] at h; exact absurd h (by decide)
  · unfold qint at h; rw [t] at h; exact absurd h (by decide)
theorem q_lng {σ : qσ} {ρ : qρ} {a : AV} {v : Value} (hr : qR σ ρ a v) (h : a.1 = 2) : ∃ z : Int64, v = .long z := by
  rcases hr with ⟨t, _⟩ | ⟨t, _⟩ | ⟨_, z, e, _⟩ | ⟨t, _⟩
  · rw [h] at t; cases t
  · rw [h] at t; cases t
  · exact ⟨z, e⟩
  · rw [h] at t; cases t
def qs_bin (k : Nat) (S : AS) (pc : Nat) : Option qSu :=
  match S.2.1.2 with
  | b :: a :: stk => if qint a && qint b then (match qbin k S.1 a b with
    | some r => some [((r.1, (S.2.1.1, r.2 :: stk), S.2.2), pc + 1)]
    | none => none) else none
  | _ => none
theorem qs_binI {x : qCx} {k : Nat} {S : AS} {pc : Nat} {L : qSu} (hs : qs_bin k S pc = some L)
    (hd : ∀ (H : Heap) (locs : List Loc) (ls : Array Slot) (st : List Value) (y z : Int32), (9 ≤ k → ¬ z = 0) → qWp x H locs (pc + 1) ls (.int (qfun k y z) :: st) → qWp x H locs pc ls (.int z :: .int y :: st)) (h : qOk x L) : qG x S pc := by
  obtain ⟨γ, p, l, e, R, s, m, args, below, meth, c, Q, ⟨cc, nL', own⟩, A, D, adr, X, ms, w0, σe⟩ := x
  obtain ⟨N, ⟨loc, stk⟩, M⟩ := S
  unfold qs_bin at hs
  split at hs
  · rename_i b a stk' heq
    simp only at heq
    subst heq
    split at hs
    · rename_i hc
      simp only [Bool.and_eq_true] at hc
      split at hs
      · rename_i r hr
        cases hs
        have hG := qOk1 h
        intro σ ρ lv st ls ws H locs hw hl hS
        obtain ⟨h1, h2, h3, h4, h5, h6⟩ := hS
        match st, h2.2 with
        | vb :: va :: st, ⟨hrb, hra, hst⟩ =>
        obtain ⟨y, rfl⟩ := q_int hra hc.1
        obtain ⟨z, rfl⟩ := q_int hrb hc.2
        obtain ⟨hne, σ', s1, s2, s3⟩ := q_bin h1 k hra hrb hr
        have hF := h2.mono s1 (fun _ _ h => h)
        exact hd H locs ls st y z hne (hG σ' ρ lv _ ls ws H locs hw hl ⟨s2, ⟨hF.1, s3, hF.2.2.2⟩, h3.monoσ s1, h4, h5, fun v x hv => s1 v x (h6 v x hv)⟩)
      · cases hs
    · cases hs
  · cases hs
/-- one value to another: a negative number, widths, longs -/
def qs_un (f : qN → AV → Option (qN × AV)) (S : AS) (pc : Nat) : Option qSu :=
  match S.2.1.2 with
  | a :: stk => (match f S.1 a with
    | some r => some [((r.1, (S.2.1.1, r.2 :: stk), S.2.2), pc + 1)]
    | none => none)
  | _ => none
theorem qs_unG {x : qCx} {f : qN → AV → Option (qN × AV)} {S : AS} {pc : Nat} {L : qSu} (hs : qs_un f S pc = some L)
    (hd : ∀ (H : Heap) (locs : List Loc) (ls : Array Slot) (st : List Value) (D : qWd) (σ : qσ) (ρ : qρ) (N : qN) (a : AV) (r : qN × AV) (v : Value), qsN D σ N → qR σ ρ a v → f N a = some r → ∃ (w : Value) (σ' : qσ), qle1 σ σ' ∧ qsN D σ' r.1 ∧ qR σ' ρ r.2 w ∧ (qWp x H locs (pc + 1) ls (w :: st) → qWp x H locs pc ls (v :: st))) (h : qOk x L) : qG x S pc := by
  obtain ⟨γ, p, l, e, R, s, m, args, below, meth, c, Q, ⟨cc, nL', own⟩, A, D, adr, X, ms, w0, σe⟩ := x
  obtain ⟨N, ⟨loc, stk⟩, M⟩ := S
  unfold qs_un at hs
  split at hs
  · rename_i a stk' heq
    simp only at heq
    subst heq
    split at hs
    · rename_i r hr
      cases hs
      have hG := qOk1 h
      intro σ ρ lv st ls ws H locs hw hl hS
      obtain ⟨h1, h2, h3, h4, h5, h6⟩ := hS
      match st, h2.2 with
      | v :: st, ⟨hra, hst⟩ =>
      obtain ⟨w, σ', s1, s2, s3, hk⟩ := hd H locs ls st D σ ρ N a r v h1 hra hr
      have hF := h2.mono s1 (fun _ _ h => h)
      exact hk (hG σ' ρ lv _ ls ws H locs hw hl ⟨s2, ⟨hF.1, s3, hF.2.2⟩, h3.monoσ s1, h4, h5, fun v x hv => s1 v x (h6 v x hv)⟩)
    · cases hs
  · cases hs
def qu_neg (N : qN) (a : AV) : Option (qN × AV) := (qiv N a).map (fun p => qfr N (qclip (qneg p)))
def qu_i2b (N : qN) (a : AV) : Option (qN × AV) := (qiv N a).map (fun _ => qfr N (-128, 127))
def qu_i2l (N : qN) (a : AV) : Option (qN × AV) := (qiv N a).map (fun p => qfrL N p)
def qu_l2i (N : qN) (a : AV) : Option (qN × AV) := (qivL N a).map (fun p => qfr N (ql2i p))
/-- two longs to one -/
def qbinL (k : Nat) (N : qN) (a b : AV) : Option (qN × AV) :=
  match qivL N a, qivL N b with
  | some p, some q => (match k with
    | 0 => some (qfrL N (qclipL (qadd p q)))
    | 1 => some (qfrL N (qclipL (qmul p q)))
    | 2 => if qle 1 q.1 then some (qfrL N (qdivL p q)) else none
    | 3 => if qle 1 q.1 then some (qfrL N (qremL p q)) else none
    | 4 => some (qfrL N (i64lo, i64hi))
    | 5 => some (qfrL N (i64lo, i64hi))
    | 6 => some (qfrL N (i64lo, i64hi))
    | 7 => some (qfr N (-1, 1))
    | _ => none)
  | _, _ => none
def qs_binL (k : Nat) (S : AS) (pc : Nat) : Option qSu :=
  match S.2.1.2 with
  | b :: a :: stk => (match qbinL k S.1 a b with
    | some r => some [((r.1, (S.2.1.1, r.2 :: stk), S.2.2), pc + 1)]
    | none => none)
  | _ => none
def qfunL (k : Nat) (x y : Int64) : Int64 :=
  match k with
  | 0 => x + y
  | 1 => x * y
  | 2 => x / y
  | 3 => x - x / y * y
  | 4 => x &&& y
  | 5 => x ||| y
  | 6 => x - y
  | _ => x
theorem q_binL {D : qWd} {σ : qσ} {ρ : qρ} {N : qN} (h : qsN D σ N) (k : Nat) {a b : AV} {v w : Value} (ha : qR σ ρ a v) (hb : qR σ ρ b w) {r : qN × AV} (hr : qbinL k N a b = some r) :
    ∃ x y : Int64, v = .long x ∧ w = .long y ∧ (k = 2 ∨ k = 3 → ¬ y = 0) ∧ (k < 7 → ∃ σ', qle1 σ σ' ∧ qsN D σ' r.1 ∧ qR σ' ρ r.2 (.long (qfunL k x y))) ∧ (7 ≤ k → ∀ z : Int32, qIn (-1, 1) z.toInt → ∃ σ', qle1 σ σ' ∧ qsN D σ' r.1 ∧ qR σ' ρ r.2 (.int z)) := by
  unfold qbinL at hr
  split at hr
  · rename_i p q hp hq
    obtain ⟨x, e1, i1⟩ := q_ivL h ha hp
    obtain ⟨y, e2, i2⟩ := q_ivL h hb hq
    refine ⟨x, y, e1, e2, ?_⟩
    split at hr
    · cases hr; exact ⟨by omega, fun _ => q_frL h (q_clipL (q_addTL x y) (q_add i1 i2)), by omega⟩
    · cases hr; exact ⟨by omega, fun _ => q_frL h (q_clipL (q_mulTL x y) (q_mul i1 i2)), by omega⟩
    · split at hr
      · rename_i hc
        simp only [qle, decide_eq_true_eq] at hc
        cases hr
        exact ⟨fun _ e => by subst e; have := i2.1; simp at this; omega, fun _ => q_frL h (q_divL i1 i2), by omega⟩
      · cases hr
    · split at hr
      · rename_i hc
        simp only [qle, decide_eq_true_eq] at hc
        cases hr
        exact ⟨fun _ e => by subst e; have := i2.1; simp at this; omega, fun _ => q_frL h (q_remL i1 i2), by omega⟩
      · cases hr
    · cases hr; exact ⟨by omega, fun _ => q_frL h (q_fullL _), by omega⟩
    · cases hr; exact ⟨by omega, fun _ => q_frL h (q_fullL _), by omega⟩
    · cases hr; exact ⟨by omega, fun _ => q_frL h (q_fullL _), by omega⟩
    · cases hr; exact ⟨by omega, by omega, fun _ z hz => q_fr h hz⟩
    · cases hr
  · cases hr
theorem qs_binLG {x : qCx} {k : Nat} {S : AS} {pc : Nat} {L : qSu} (hs : qs_binL k S pc = some L)
    (hd : ∀ (H : Heap) (locs : List Loc) (ls : Array Slot) (st : List Value) (y z : Int64), (k = 2 ∨ k = 3 → ¬ z = 0) → ∃ w : Value, ((k < 7 ∧ w = .long (qfunL k y z)) ∨ (7 ≤ k ∧ ∃ q : Int32, w = .int q ∧ qIn (-1, 1) q.toInt)) ∧ (qWp x H locs (pc + 1) ls (w :: st) → qWp x H locs pc ls (.long z :: .long y :: st))) (h : qOk x L) : qG x S pc := by
  obtain ⟨γ, p, l, e, R, s, m, args, below, meth, c, Q, ⟨cc, nL', own⟩, A, D, adr, X, ms, w0, σe⟩ := x
  obtain ⟨N, ⟨loc, stk⟩, M⟩ := S
  unfold qs_binL at hs
  split at hs
  · rename_i b a stk' heq
    simp only at heq
    subst heq
    split at hs
    · rename_i r hr
      cases hs
      have hG := qOk1 h
      intro σ ρ lv st ls ws H locs hw hl hS
      obtain ⟨h1, h2, h3, h4, h5, h6⟩ := hS
      match st, h2.2 with
      | vb :: va :: st, ⟨hrb, hra, hst⟩ =>
      obtain ⟨y, z, rfl, rfl, hne, hA, hB⟩ := q_binL h1 k hra hrb hr
      obtain ⟨w, hw9, hk⟩ := hd H locs ls st y z hne
      have : ∃ σ', qle1 σ σ' ∧ qsN D σ' r.1 ∧ qR σ' ρ r.2 w := by
        rcases hw9 with ⟨k1, rfl⟩ | ⟨k1, q, rfl, hq⟩
        · exact hA k1
        · exact hB k1 q hq
      obtain ⟨σ', s1, s2, s3⟩ := this
      have hF := h2.mono s1 (fun _ _ h => h)
      exact hk (hG σ' ρ lv _ ls ws H locs hw hl ⟨s2, ⟨hF.1, s3, hF.2.2.2⟩, h3.monoσ s1, h4, h5, fun v x hv => s1 v x (h6 v x hv)⟩)
    · cases hs
  · cases hs
/-- a long by an int -/
def qs_shL (S : AS) (pc : Nat) : Option qSu :=
  match S.2.1.2 with
  | b :: a :: stk => if qint b && a.1 == 2 then some [(((qfrL S.1 (i64lo, i64hi)).1, (S.2.1.1, (qfrL S.1 (i64lo, i64hi)).2 :: stk), S.2.2), pc + 1)] else none
  | _ => none
theorem qs_shLG {x : qCx} {S : AS} {pc : Nat} {L : qSu} (hs : qs_shL S pc = some L)
    (hd : ∀ (H : Heap) (locs : List Loc) (ls : Array Slot) (st : List Value) (y : Int64) (z : Int32), ∃ w : Int64, qWp x H locs (pc + 1) ls (.long w :: st) → qWp x H locs pc ls (.int z :: .long y :: st)) (h : qOk x L) : qG x S pc := by
  obtain ⟨γ, p, l, e, R, s, m, args, below, meth, c, Q, ⟨cc, nL', own⟩, A, D, adr, X, ms, w0, σe⟩ := x
  obtain ⟨N, ⟨loc, stk⟩, M⟩ := S
  unfold qs_shL at hs
  split at hs
  · rename_i b a stk' heq
    simp only at heq
    subst heq
    split at hs
    · rename_i hc
      simp only [Bool.and_eq_true, beq_iff_eq] at hc
      cases hs
      have hG := qOk1 h
      intro σ ρ lv st ls ws H locs hw hl hS
      obtain ⟨h1, h2, h3, h4, h5, h6⟩ := hS
      match st, h2.2 with
      | vb :: va :: st, ⟨hrb, hra, hst⟩ =>
      obtain ⟨z, rfl⟩ := q_int hrb hc.1
      obtain ⟨y, rfl⟩ := q_lng hra hc.2
      obtain ⟨w, hk⟩ := hd H locs ls st y z
      obtain ⟨σ', s1, s2, s3⟩ := q_frL (ρ := ρ) h1 (q_fullL w)
      have hF := h2.mono s1 (fun _ _ h => h)
      exact hk (hG σ' ρ lv _ ls ws H locs hw hl ⟨s2, ⟨hF.1, s3, hF.2.2.2⟩, h3.monoσ s1, h4, h5, fun v x hv => s1 v x (h6 v x hv)⟩)
    · cases hs
  · cases hs

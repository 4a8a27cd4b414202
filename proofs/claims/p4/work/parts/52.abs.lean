/-! abstract states: values are numbers of variables, the heap is typed by regions -/
abbrev AV : Type := Nat × Nat × Int
abbrev qTy : Type := Nat × Int × Int
abbrev qRT : Type := Nat × Nat × List (Nat × qTy)
abbrev qWd : Type := List Nat × List qRT × Nat
abbrev qN : Type := List qIv × List (Nat × Nat × Int) × List (Nat × Nat × Nat × Int)
abbrev qF : Type := List (Nat × AV) × List AV
abbrev qM : Type := List Nat × List (Nat × Nat × AV) × List (Nat × Nat)
abbrev AS : Type := qN × qF × qM
abbrev qσ : Type := Nat → Option Int
abbrev qρ : Type := Nat → Option Nat
def F2 {α β : Type} (R : α → β → Prop) : List α → List β → Prop
  | [], [] => True
  | a :: as, b :: bs => R a b ∧ F2 R as bs
  | _, _ => False
theorem F2.mono {α β : Type} {R R' : α → β → Prop} (h : ∀ a b, R a b → R' a b) : ∀ {l : List α} {l' : List β}, F2 R l l' → F2 R' l l'
  | [], [], _ => trivial
  | _ :: _, _ :: _, ⟨h1, h2⟩ => ⟨h _ _ h1, F2.mono h h2⟩
theorem F2.filter {α β : Type} {R : α → β → Prop} (f : α → Bool) (g : β → Bool) (h : ∀ a b, R a b → f a = g b) : ∀ {l : List α} {l' : List β}, F2 R l l' → F2 R (l.filter f) (l'.filter g)
  | [], [], _ => trivial
  | a :: l, b :: l', ⟨h1, h2⟩ => by
    rw [List.filter_cons, List.filter_cons, h a b h1]
    cases g b
    · exact F2.filter f g h h2
    · exact ⟨h1, F2.filter f g h h2⟩
theorem F2.mem {α β : Type} {R : α → β → Prop} {a : α} : ∀ {l : List α} {l' : List β}, F2 R l l' → a ∈ l → ∃ b, b ∈ l' ∧ R a b
  | _ :: _, b :: _, ⟨h1, h2⟩, h => (List.mem_cons.mp h).elim (fun e => ⟨b, List.mem_cons_self, e ▸ h1⟩) (fun h => (F2.mem h2 h).elim (fun b hb => ⟨b, List.mem_cons_of_mem _ hb.1, hb.2⟩))
theorem F2.idx {α β : Type} {R : α → β → Prop} {a : α} : ∀ {l : List α} {l' : List β} {k : Nat}, F2 R l l' → l[k]? = some a → ∃ b, l'[k]? = some b ∧ R a b
  | _ :: _, b :: _, 0, ⟨h1, _⟩, h => ⟨b, rfl, by simp at h; exact h ▸ h1⟩
  | _ :: _, _ :: _, k + 1, ⟨_, h2⟩, h => by
    obtain ⟨b, h3, h4⟩ := F2.idx (k := k) h2 (by simpa using h)
    exact ⟨b, by simpa using h3, h4⟩
  | [], [], _, _, h => by simp at h
theorem F2.len {α β : Type} {R : α → β → Prop} : ∀ {l : List α} {l' : List β}, F2 R l l' → l.length = l'.length
  | [], [], _ => rfl
  | _ :: _, _ :: _, ⟨_, h2⟩ => by simp [F2.len h2]
def qWR : Nat := 77
def qwad (γ : kΓ) (i : Nat) : Nat := γ.2.2.2.2 i
def qinR (D : qWd) (γ : kΓ) (adr : List Nat) (g a : Nat) : Prop := (g = qWR ∧ ∃ i, i < 26 ∧ a = qwad γ i) ∨ ∃ q : Nat, D.1[q]? = some g ∧ adr[q]? = some a
def qvT (D : qWd) (γ : kΓ) (adr : List Nat) (t : qTy) (v : Value) : Prop :=
  (t.1 = 0 → ∃ x : Int32, v = .int x ∧ qIn t.2 x.toInt) ∧ (t.1 = 1 → ∃ x : Int64, v = .long x ∧ qIn t.2 x.toInt) ∧ (t.1 = 2 → ∃ a, v = .ref a ∧ qinR D γ adr t.2.1.toNat a)
def qrd (c : va_E) (k : Nat) : Option Value := match c with
  | .inr o => o.2[k]?
  | .inl a => match a.2.2 with
    | .inl f => if k < a.2.1 then some (.int (f k)) else none
    | .inr (.inl f) => if k < a.2.1 then some (.long (f k)) else none
    | .inr (.inr (.inr (.inr f))) => if k < a.2.1 then some (va_rf (f k)) else none
    | _ => none
def qsh (γ : kΓ) (r : qRT) (c : va_E) : Prop := match c with
  | .inr o => r.1 = 10 + o.1 ∧ o.2.length = r.2.1
  | .inl a => a.1 = γ.2.1 r.1 ∧ a.2.1 = r.2.1 ∧ r.2.1 < 2147483648 ∧ (match a.2.2 with
    | .inl _ => r.1 = 0 ∨ r.1 = 2 ∨ r.1 = 3
    | .inr (.inl _) => r.1 = 1
    | .inr (.inr (.inr (.inr _))) => r.1 = 4 ∨ r.1 = 5
    | _ => False)
def qsg : List (Nat × qTy) → Nat → qTy
  | [], _ => (9, 0, 0)
  | (e, t) :: r, k => if k < e then t else qsg r k
/-- the heap as its types say, but for the slots ex -/
def qH (D : qWd) (γ : kΓ) (adr : List Nat) (ex : Nat → Nat → Prop) (ws : va_W) : Prop :=
  ws.map Prod.fst = adr ∧ ws.length = D.1.length ∧ ∀ (q g a : Nat) (c : va_E), D.1[q]? = some g → ws[q]? = some (a, c) → ∃ r, D.2.1[g]? = some r ∧ qsh γ r c ∧ ∀ k, k < r.2.1 → ex a k ∨ ∃ v, qrd c k = some v ∧ qvT D γ adr (qsg r.2.2 k) v
abbrev qMods : Type := List (Nat × Nat × Nat)
def qmod (ms : qMods) (g k : Nat) : Bool := ms.any (fun m => m.1 == g && Nat.ble m.2.1 k && Nat.ble k m.2.2)
def qK (D : qWd) (ms : qMods) (w0 ws : va_W) : Prop := ∀ (q g a : Nat) (c : va_E) (a' : Nat) (c' : va_E), D.1[q]? = some g → w0[q]? = some (a, c) → ws[q]? = some (a', c') → ∀ k, qmod ms g k = false → qrd c' k = qrd c k
def qR (σ : qσ) (ρ : qρ) (a : AV) (v : Value) : Prop :=
  (a.1 = 0 ∧ ∃ (x : Int32) (y : Int), v = .int x ∧ σ a.2.1 = some y ∧ x.toInt = y + a.2.2) ∨
  (a.1 = 1 ∧ ∃ x : Int32, v = .int x ∧ x.toInt = a.2.2) ∨
  (a.1 = 2 ∧ ∃ x : Int64, v = .long x ∧ σ a.2.1 = some x.toInt) ∨
  (a.1 = 3 ∧ ∃ n, v = .ref n ∧ ρ a.2.1 = some n)
def qle1 (σ σ' : qσ) : Prop := ∀ v x, σ v = some x → σ' v = some x
def qle2 (ρ ρ' : qρ) : Prop := ∀ v x, ρ v = some x → ρ' v = some x
theorem qR.mono {σ σ' : qσ} {ρ ρ' : qρ} (h1 : qle1 σ σ') (h2 : qle2 ρ ρ') {a : AV} {v : Value} (h : qR σ ρ a v) : qR σ' ρ' a v := by
  rcases h with ⟨t, x, y, e, hs, hx⟩ | h | ⟨t, x, e, hs⟩ | ⟨t, n, e, hs⟩
  · exact .inl ⟨t, x, y, e, h1 _ _ hs, hx⟩
  · exact .inr (.inl h)
  · exact .inr (.inr (.inl ⟨t, x, e, h1 _ _ hs⟩))
  · exact .inr (.inr (.inr ⟨t, n, e, h2 _ _ hs⟩))
theorem qR.cat {σ : qσ} {ρ : qρ} {a : AV} {v : Value} (h : qR σ ρ a v) : (v.category == 2) = (a.1 == 2) ∧ v.category = (if a.1 = 2 then 2 else 1) := by
  rcases h with ⟨t, x, y, e, hs, hx⟩ | ⟨t, x, e, hx⟩ | ⟨t, x, e, hs⟩ | ⟨t, n, e, hs⟩ <;> subst e <;> rw [t] <;> exact ⟨rfl, rfl⟩
/-- the numbers: what is known of the variables -/
def qsN (D : qWd) (σ : qσ) (N : qN) : Prop :=
  (∀ v, N.1.length ≤ v → σ v = none) ∧ (∀ v iv, N.1[v]? = some iv → ∃ x, σ v = some x ∧ qIn iv x) ∧
  (∀ a b d, (a, b, d) ∈ N.2.1 → ∃ x y, σ a = some x ∧ σ b = some y ∧ y + d ≤ x) ∧
  (∀ v g V d, (v, g, V, d) ∈ N.2.2 → ∃ r x y, D.2.1[g]? = some r ∧ σ v = some x ∧ σ V = some y ∧ 0 ≤ y + d ∧ ((qsg r.2.2 (y + d).toNat).1 = 0 → qIn (qsg r.2.2 (y + d).toNat).2 x))
def qsF (σ : qσ) (ρ : qρ) (F : qF) (lv : List (Nat × Value)) (st : List Value) : Prop := F2 (fun x y => x.1 = y.1 ∧ qR σ ρ x.2 y.2) F.1 lv ∧ F2 (qR σ ρ) F.2 st
/-- the place that k means: itself, or a variable's number and something -/
def qix (σ : qσ) (k i : Nat) : Prop := (k < 10000 ∧ i = k) ∨ (10000 ≤ k ∧ ∃ y, σ ((k - 10000) / 4096) = some y ∧ (i : Int) = y + (((k - 10000) % 4096 : Nat) : Int) - 2048)
theorem qix.mono {σ σ' : qσ} (h : qle1 σ σ') {k i : Nat} (hk : qix σ k i) : qix σ' k i := hk.imp id (fun ⟨h1, y, h2, h3⟩ => ⟨h1, y, h _ _ h2, h3⟩)
def qexA (ρ : qρ) (ex : List (Nat × Nat)) (a k : Nat) : Prop := ∃ n, (n, k) ∈ ex ∧ ρ n = some a
def qsM (D : qWd) (γ : kΓ) (adr : List Nat) (σ : qσ) (ρ : qρ) (M : qM) (ws : va_W) : Prop :=
  (∀ n, n < D.2.2 → ρ n = adr[n]?) ∧ (∀ j g, M.1[j]? = some g → ∃ a, ρ (D.2.2 + j) = some a ∧ qinR D γ adr g a) ∧ (∀ n, D.2.2 + M.1.length ≤ n → ρ n = none) ∧
  (∀ n k av, (n, k, av) ∈ M.2.1 → ∃ (q a : Nat) (c : va_E) (v : Value) (i : Nat), ws[q]? = some (a, c) ∧ ρ n = some a ∧ qrd c i = some v ∧ qR σ ρ av v ∧ qix σ k i) ∧
  qH D γ adr (qexA ρ M.2.2) ws
theorem qsF.mono {σ σ' : qσ} {ρ ρ' : qρ} (h1 : qle1 σ σ') (h2 : qle2 ρ ρ') {F : qF} {lv : List (Nat × Value)} {st : List Value} (h : qsF σ ρ F lv st) : qsF σ' ρ' F lv st :=
  ⟨F2.mono (fun _ _ h => ⟨h.1, h.2.mono h1 h2⟩) h.1, F2.mono (fun _ _ h => h.mono h1 h2) h.2⟩
theorem qsM.monoσ {D : qWd} {γ : kΓ} {adr : List Nat} {σ σ' : qσ} {ρ : qρ} (h1 : qle1 σ σ') {M : qM} {ws : va_W} (h : qsM D γ adr σ ρ M ws) : qsM D γ adr σ' ρ M ws :=
  ⟨h.1, h.2.1, h.2.2.1, fun n k av hm => (h.2.2.2.1 n k av hm).elim (fun q h => h.elim (fun a h => h.elim (fun c h => h.elim (fun v h => h.elim (fun i h => ⟨q, a, c, v, i, h.1, h.2.1, h.2.2.1, h.2.2.2.1.mono h1 (fun _ _ h => h), h.2.2.2.2.mono h1⟩))))), h.2.2.2.2⟩
/-- a new number -/
def qfr (N : qN) (iv : qIv) : qN × AV := if iv.1 = iv.2 then (N, (1, 0, iv.1)) else ((N.1 ++ [iv], N.2), (0, N.1.length, 0))
theorem q_ext {D : qWd} {σ : qσ} {N : qN} (h : qsN D σ N) {iv : qIv} {x : Int} (hx : qIn iv x) : ∃ σ', qle1 σ σ' ∧ qsN D σ' (N.1 ++ [iv], N.2) ∧ σ' N.1.length = some x := by
  have hn := h.1 _ (Nat.le_refl _)
  refine ⟨fun v => if v = N.1.length then some x else σ v, ?_, ⟨?_, ?_, ?_, ?_⟩, by simp⟩
  · intro v y hv
    by_cases e : v = N.1.length
    · rw [e, hn] at hv; cases hv
    · simp [e, hv]
  · intro v hv
    simp at hv
    have : ¬ v = N.1.length := by omega
    simp only [this, if_false]
    exact h.1 v (by omega)
  · intro v iv' hv
    by_cases e : v = N.1.length
    · subst e
      simp at hv
      exact ⟨x, by simp, hv ▸ hx⟩
    · have : v < N.1.length := by
        have := (List.getElem?_eq_some_iff.mp hv).1
        simp at this; omega
      rw [List.getElem?_append_left this] at hv
      simp only [e, if_false]
      exact h.2.1 v iv' hv
  · intro a b d hm
    obtain ⟨y, z, h1, h2, h3⟩ := h.2.2.1 a b d hm
    have n1 : ¬ a = N.1.length := fun e => by rw [e, hn] at h1; cases h1
    have n2 : ¬ b = N.1.length := fun e => by rw [e, hn] at h2; cases h2
    exact ⟨y, z, by simp [n1, h1], by simp [n2, h2], h3⟩
  · intro v g V d hm
    obtain ⟨r, y, z, h0, h1, h2, h3⟩ := h.2.2.2 v g V d hm
    have n1 : ¬ v = N.1.length := fun e => by rw [e, hn] at h1; cases h1
    have n2 : ¬ V = N.1.length := fun e => by rw [e, hn] at h2; cases h2
    exact ⟨r, y, z, h0, by simp [n1, h1], by simp [n2, h2], h3⟩
theorem q_fr {D : qWd} {σ : qσ} {ρ : qρ} {N : qN} (h : qsN D σ N) {iv : qIv} {x : Int32} (hx : qIn iv x.toInt) : ∃ σ', qle1 σ σ' ∧ qsN D σ' (qfr N iv).1 ∧ qR σ' ρ (qfr N iv).2 (.int x) := by
  unfold qfr
  by_cases e : iv.1 = iv.2
  · rw [if_pos e]
    refine ⟨σ, fun _ _ h => h, h, .inr (.inl ⟨rfl, x, rfl, ?_⟩)⟩
    have := hx.1; have := hx.2; show x.toInt = iv.1; omega
  · rw [if_neg e]
    obtain ⟨σ', h1, h2, h3⟩ := q_ext h hx
    exact ⟨σ', h1, h2, .inl ⟨rfl, x, x.toInt, rfl, h3, by simp⟩⟩
def qfrL (N : qN) (iv : qIv) : qN × AV := ((N.1 ++ [iv], N.2), (2, N.1.length, 0))
theorem q_frL {D : qWd} {σ : qσ} {ρ : qρ} {N : qN} (h : qsN D σ N) {iv : qIv} {x : Int64} (hx : qIn iv x.toInt) : ∃ σ', qle1 σ σ' ∧ qsN D σ' (qfrL N iv).1 ∧ qR σ' ρ (qfrL N iv).2 (.long x) := by
  obtain ⟨σ', h1, h2, h3⟩ := q_ext h hx
  exact ⟨σ', h1, h2, .inr (.inr (.inl ⟨rfl, x, rfl, h3⟩))⟩
/-- a new reference -/
theorem q_frR {D : qWd} {γ : kΓ} {adr : List Nat} {σ : qσ} {ρ : qρ} {M : qM} {ws : va_W} (h : qsM D γ adr σ ρ M ws) {g a : Nat} (ha : qinR D γ adr g a) : ∃ ρ', qle2 ρ ρ' ∧ qsM D γ adr σ ρ' (M.1 ++ [g], M.2) ws ∧ ρ' (D.2.2 + M.1.length) = some a := by
  have hn := h.2.2.1 _ (Nat.le_refl _)
  have hle : qle2 ρ (fun v => if v = D.2.2 + M.1.length then some a else ρ v) := by
    intro v y hv
    by_cases e : v = D.2.2 + M.1.length
    · rw [e, hn] at hv; cases hv
    · simp [e, hv]
  refine ⟨fun v => if v = D.2.2 + M.1.length then some a else ρ v, hle, ⟨?_, ?_, ?_, ?_, ?_⟩, by simp⟩
  · intro n hn
    have : ¬ n = D.2.2 + M.1.length := by omega
    simp only [this, if_false]
    exact h.1 n hn
  · intro j g' hj
    by_cases e : j = M.1.length
    · subst e
      simp at hj
      exact ⟨a, by simp, hj ▸ ha⟩
    · have : j < M.1.length := by
        have := (List.getElem?_eq_some_iff.mp hj).1
        simp at this; omega
      rw [List.getElem?_append_left this] at hj
      have e2 : ¬ D.2.2 + j = D.2.2 + M.1.length := by omega
      simp only [e2, if_false]
      exact h.2.1 j g' hj
  · intro n hn
    simp at hn
    have : ¬ n = D.2.2 + M.1.length := by omega
    simp only [this, if_false]
    exact h.2.2.1 n (by omega)
  · intro n k av hm
    obtain ⟨q, b, c, v, i, h1, h2, h3, h4, h5⟩ := h.2.2.2.1 n k av hm
    exact ⟨q, b, c, v, i, h1, hle _ _ h2, h3, h4.mono (fun _ _ h => h) hle, h5⟩
  · obtain ⟨h1, h2, h3⟩ := h.2.2.2.2
    refine ⟨h1, h2, fun q g b c hg hc => ?_⟩
    obtain ⟨r, e1, e2, e3⟩ := h3 q g b c hg hc
    refine ⟨r, e1, e2, fun k hk => (e3 k hk).imp (fun z => ?_) id⟩
    obtain ⟨n, z1, z2⟩ := z
    exact ⟨n, z1, hle _ _ z2⟩
/-- what is known of a value -/
def qiv (N : qN) (a : AV) : Option qIv := if a.1 = 0 then (N.1[a.2.1]?).map (fun p => (p.1 + a.2.2, p.2 + a.2.2)) else if a.1 = 1 then some (a.2.2, a.2.2) else none
theorem q_iv {D : qWd} {σ : qσ} {ρ : qρ} {N : qN} (h : qsN D σ N) {a : AV} {v : Value} (hr : qR σ ρ a v) {iv : qIv} (hi : qiv N a = some iv) : ∃ x : Int32, v = .int x ∧ qIn iv x.toInt := by
  unfold qiv at hi
  rcases hr with ⟨t, x, y, e, hs, hx⟩ | ⟨t, x, e, hx⟩ | ⟨t, x, e, hs⟩ | ⟨t, n, e, hs⟩
  · rw [t] at hi
    simp only [if_true, Option.map_eq_some_iff] at hi
    obtain ⟨p, h1, h2⟩ := hi
    obtain ⟨z, h3, h4⟩ := h.2.1 _ _ h1
    rw [hs] at h3
    cases h3
    refine ⟨x, e, ?_⟩
    rw [← h2]
    simp only [qIn] at *
    omega
  · rw [t] at hi
    simp at hi
    exact ⟨x, e, by rw [← hi]; simp only [qIn]; omega⟩
  · rw [t] at hi; simp at hi
  · rw [t] at hi; simp at hi
def qivL (N : qN) (a : AV) : Option qIv := if a.1 = 2 then N.1[a.2.1]? else none
theorem q_ivL {D : qWd} {σ : qσ} {ρ : qρ} {N : qN} (h : qsN D σ N) {a : AV} {v : Value} (hr : qR σ ρ a v) {iv : qIv} (hi : qivL N a = some iv) : ∃ x : Int64, v = .long x ∧ qIn iv x.toInt := by
  unfold qivL at hi
  rcases hr with ⟨t, x, y, e, hs, hx⟩ | ⟨t, x, e, hx⟩ | ⟨t, x, e, hs⟩ | ⟨t, n, e, hs⟩
  · rw [t] at hi; simp at hi
  · rw [t] at hi; simp at hi
  · rw [t] at hi
    simp only [if_true] at hi
    obtain ⟨z, h3, h4⟩ := h.2.1 _ _ hi
    rw [hs] at h3
    cases h3
    exact ⟨x, e, h4⟩
  · rw [t] at hi; simp at hi
/-- narrower -/
def qnar (N : qN) (a : AV) (iv : qIv) : Option qN :=
  if a.1 = 0 then (N.1[a.2.1]?).bind (fun p => let lo := qmax p.1 (iv.1 - a.2.2); let hi := qmin p.2 (iv.2 - a.2.2); if lo ≤ hi then some (N.1.set a.2.1 (lo, hi), N.2) else none)
  else if a.1 = 1 then (if iv.1 ≤ a.2.2 ∧ a.2.2 ≤ iv.2 then some N else none) else some N
theorem q_nar {D : qWd} {σ : qσ} {ρ : qρ} {N : qN} (h : qsN D σ N) {a : AV} {x : Int32} (hr : qR σ ρ a (.int x)) {iv : qIv} (hx : qIn iv x.toInt) (hd : (qiv N a).isSome = true) : ∃ N', qnar N a iv = some N' ∧ qsN D σ N' := by
  unfold qnar
  rcases hr with ⟨t, x', y, e, hs, hx'⟩ | ⟨t, x', e, hx'⟩ | ⟨t, x', e, hs⟩ | ⟨t, n, e, hs⟩
  · cases e
    unfold qiv at hd
    rw [t] at hd ⊢
    simp only [if_true, Option.isSome_map] at hd ⊢
    obtain ⟨p, hp⟩ := Option.isSome_iff_exists.mp hd
    obtain ⟨z, h3, h4⟩ := h.2.1 _ _ hp
    rw [hs] at h3
    cases h3
    rw [hp]
    simp only [Option.bind_some]
    have hlo : qmax p.1 (iv.1 - a.2.2) ≤ y ∧ y ≤ qmin p.2 (iv.2 - a.2.2) := by
      simp only [qIn, qmax, qmin] at *
      constructor <;> split <;> omega
    rw [if_pos (Int.le_trans hlo.1 hlo.2)]
    refine ⟨_, rfl, fun v hv => h.1 v (by simpa using hv), fun v iv' hv => ?_, h.2.2.1, h.2.2.2⟩
    by_cases e9 : a.2.1 = v
    · subst e9
      rw [List.getElem?_set_self (List.getElem?_eq_some_iff.mp hp).1] at hv
      cases hv
      exact ⟨y, hs, hlo⟩
    · rw [List.getElem?_set_ne e9] at hv
      exact h.2.1 v iv' hv
  · cases e
    rw [t]
    simp only [Nat.one_ne_zero, if_false, if_true]
    refine ⟨N, ?_, h⟩
    rw [if_pos]
    simp only [qIn] at hx; omega
  · cases e
  · cases e

/-! what both answer of a tape: one number -/
def a00 : aAS := (fun _ => 0, fun _ => 0, fun _ => 0, fun _ => 0, fun _ => 0, fun _ => 0, fun _ => 0, 0, 0, 0, 0, 0, 0, 0, 0, 0, 0, 0)
def b00 : mAS := (F_m_usual1 (fun _ => 0), fun _ => 0, fun _ => 0, fun _ => 0, fun _ => 0, fun _ => 0, fun _ => 0, fun _ => 0, fun _ => 0, fun _ => 0, fun _ => 0, fun _ => 0)
/-- the fault of the tape f of n signs -/
def fvA (f : Nat → Int32) (n : Nat) : Int32 := (F_readAbbey f n a00 0 0).1
theorem fvA_c {f f0 : Nat → Int32} {n : Nat} (hfg : ∀ k, k < n → f0 k = f k) (hn : n ≤ 1000) {a : aAS} {t5 : Int32} {t6 : Int64} : (F_readAbbey f0 n a t5 t6).1 = fvA f n := by
  obtain ⟨res, h1, h2⟩ := abbey_sim (f := f0) (g := f) (a := a) (t5 := t5) (t6 := t6) (w0 := 0) (w1 := 0) (w2 := 0) (b := b00) hfg hn (b0x := fun _ => 0) rfl ⟨by decide, by decide⟩
  obtain ⟨res', h1', h2'⟩ := abbey_sim (f := f) (g := f) (a := a00) (t5 := 0) (t6 := 0) (w0 := 0) (w1 := 0) (w2 := 0) (b := b00) (fun _ _ => rfl) hn (b0x := fun _ => 0) rfl ⟨by decide, by decide⟩
  rw [h1] at h1'
  have e := Option.some.inj h1'
  subst e
  show _ = (F_readAbbey f n a00 0 0).1
  rcases h2 with ⟨x1, x2, _⟩ | ⟨x1, x2, x3⟩
  · rcases h2' with ⟨y1, y2, _⟩ | ⟨y1, y2, y3⟩
    · rw [x1, y1]
    · exact absurd y2 x2
  · rcases h2' with ⟨y1, y2, _⟩ | ⟨y1, y2, y3⟩
    · exact absurd x2 y2
    · rw [← x3, ← y3]
theorem fvA_m {f g : Nat → Int32} {n : Nat} (hfg : ∀ k, k < n → f k = g k) (hn : n ≤ 1000) {w0 w1 : Int32} {w2 : Int64} {b : mAS} {b0x : Nat → Int32} (hC : b.1 = F_m_usual1 b0x) (hl : (b.2.2.2.2.2.2.2.2.1) 2 ≤ (b.2.2.2.2.2.2.2.1) 2 ∧ (b.2.2.2.2.2.2.2.2.1) 3 ≤ (b.2.2.2.2.2.2.2.1) 3) :
    ∃ res, F_m_rall g n 1001 (w0, 0, w1, w2, 0, 1000) b = some res ∧ (fvA f n = 0 → ¬ res.1 = 0) ∧ (¬ fvA f n = 0 → res.1 = 0 ∧ res.2.1.1 = fvA f n) := by
  obtain ⟨res, h1, h2⟩ := abbey_sim (f := f) (g := g) (a := a00) (t5 := 0) (t6 := 0) (w0 := w0) (w1 := w1) (w2 := w2) (b := b) hfg hn hC hl
  refine ⟨res, h1, fun h => ?_, fun h => ?_⟩
  · rcases h2 with ⟨x1, x2, _⟩ | ⟨x1, x2, x3⟩
    · exact x2
    · exact absurd h x1
  · rcases h2 with ⟨x1, x2, _⟩ | ⟨x1, x2, x3⟩
    · exact absurd x1 h
    · exact ⟨x2, x3⟩
/-! the typed worlds -/
theorem k_wide {γ : kΓ} {l : Launch} {y : MethodName} {cc : ByteArray} {maxL : Nat} {ret : Option FieldType} {f1 f2 l1 l2 : Nat} {av : List Value} {ws : va_W} {post : Option Value → va_W → Prop} (h : kM γ l y cc maxL ret ({ frames := f1, cells := 0, slots := 0, locals := l1 } : Room) av ws post) (hf : f1 ≤ f2) (hl : l1 ≤ l2) : kM γ l y cc maxL ret ({ frames := f2, cells := 0, slots := 0, locals := l2 } : Room) av ws post := by
  intro sz p e ha hcs hk s m args below hfr happ hP hK
  obtain ⟨b1, b2, b3, b4, b5, b6, b7, b8⟩ := (Spec.appliesLoose_iff hfr).mp happ
  exact h sz p e ha hcs hk s m args below hfr ((Spec.appliesLoose_iff hfr).mpr ⟨b1, b2, b3, b4, b5, b6, k_room (r := ({ frames := f1, cells := 0, slots := 0, locals := l1 } : Room)) (r' := ({ frames := f2, cells := 0, slots := 0, locals := l2 } : Room)) hf hl (Nat.le_refl _) (Nat.le_refl _) b7, b8⟩) hP hK
theorem q_refp {D : qWd} {γ : kΓ} {adr : List Nat} {g : Nat} {v : Value} (h77 : ¬ g = 77) (h : qvT D γ adr (2, (g : Int), 0) v) : ∃ (p a : Nat), v = .ref a ∧ D.1[p]? = some g ∧ adr[p]? = some a := by
  obtain ⟨a, e, h8⟩ := h.2.2 rfl
  have h9 : qinR D γ adr g a := h8
  rcases h9 with ⟨h1, -⟩ | ⟨q, h1, h2⟩
  · exact absurd h1 h77
  · exact ⟨q, a, e, h1, h2⟩
theorem q_any {D : qWd} {γ : kΓ} {adr : List Nat} {g : Nat} {v : Value} (h : qvT D γ adr (2, (g : Int), 0) v) : ∃ a, v = .ref a := by
  obtain ⟨a, e, -⟩ := h.2.2 rfl
  exact ⟨a, e⟩
theorem q_arrLp {D : qWd} {γ : kΓ} {adr : List Nat} {ws : va_W} {q g a N : Nat} {sg : List (Nat × qTy)} (hH : qH D γ adr (fun _ _ => False) ws) (hg : D.1[q]? = some g) (hr : D.2.1[g]? = some (1, N, sg)) (ha : adr[q]? = some a) : ∃ f : Nat → Int64, ws[q]? = some (a, .inl (γ.2.1 1, N, .inr (.inl f))) := by
  rw [← hH.1, List.getElem?_map, Option.map_eq_some_iff] at ha
  obtain ⟨⟨b, c⟩, h1, h2⟩ := ha
  have h2 : b = a := h2
  subst h2
  obtain ⟨r, r1, r2, r3⟩ := hH.2.2 q g b c hg h1
  rw [hr] at r1
  cases r1
  cases c with
  | inr o =>
    obtain ⟨e1, e2⟩ := r2
    have e1 : 1 = 10 + o.1 := e1
    exfalso; omega
  | inl v =>
    obtain ⟨cv, n, fv⟩ := v
    obtain ⟨e1, e2, e3, h⟩ := r2
    have e1 : cv = γ.2.1 1 := e1
    have e2 : n = N := e2
    subst e1
    subst e2
    cases fv with
    | inl f =>
      have h : 1 = 0 ∨ 1 = 2 ∨ 1 = 3 := h
      exfalso; omega
    | inr f =>
      cases f with
      | inl f => exact ⟨f, h1⟩
      | inr f =>
        exfalso
        cases f with
        | inl f => exact h
        | inr f =>
          cases f with
          | inl f => exact h
          | inr f => have h : 1 = 4 ∨ 1 = 5 := h; omega
theorem n_ofk {v : Int32} {k : Nat} (h : qIn (0, (k : Int)) v.toInt) (hk : k ≤ 1000) : ∃ n : Nat, n ≤ k ∧ v = nI n := by
  have h1 : (0 : Int) ≤ v.toInt := h.1
  have h2 : v.toInt ≤ (k : Int) := h.2
  refine ⟨v.toInt.toNat, by omega, ?_⟩
  apply Int32.toInt_inj.mp
  rw [nI_toInt (by omega)]
  omega
/-- places of different regions are different -/
theorem va_ndD {l : List Nat} : ∀ {is gs : List Nat}, is.map (fun i => l[i]?) = gs.map some → gs.Nodup → va_nd is = true := by
  intro is gs h hn
  refine b_ndup ?_
  have h1 : (is.map (fun i => l[i]?)).Nodup := by
    rw [h]
    exact List.Pairwise.map _ (fun a b (h : a ≠ b) e => h (Option.some.inj e)) hn
  exact List.Pairwise.of_map (fun i => l[i]?) (fun a b (h : l[a]? ≠ l[b]?) e => h (by rw [e])) h1
theorem l_slot {D : qWd} {γ : kΓ} {adr : List Nat} {ws : va_W} {k : Nat} {v : Value} {q a : Nat} {c : va_E} (h1 : ws[q]? = some (a, c)) (h2 : qrd c k = some v) : qsl2 ws q k = some v := by
  unfold qsl2
  rw [h1]
  exact h2

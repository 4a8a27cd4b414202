/-! two contracts of one method hold together: the machine runs one way -/
theorem k_room {s : State} {pl : Platform} {r r' : Room} (hf : r.frames ≤ r'.frames) (hl : r.locals ≤ r'.locals) (hc : r.cells ≤ r'.cells) (hs : r.slots ≤ r'.slots) (h : s.hasRoom pl r' = true) : s.hasRoom pl r = true := by
  simp only [State.hasRoom, Bool.and_eq_true, decide_eq_true_eq] at h ⊢
  obtain ⟨⟨⟨⟨y, a, b, c, d, e⟩, f⟩, g⟩, i⟩ := h
  exact ⟨⟨⟨⟨by omega, by omega, by omega, by omega, by omega, e⟩, by omega⟩, by omega⟩, i⟩
theorem k_Psub {D : va_G} {cl : List vw_C} {ws ws' : va_W} {H : Heap} (h : va_P D cl ws H) (is : List Nat) (hs : is.map (fun i => ws[i]?) = ws'.map some) : va_P D cl ws' H := by
  intro k q hk
  have h1 : (is.map (fun i => ws[i]?))[k]? = some (some q) := by rw [hs, List.getElem?_map, hk]; rfl
  rw [List.getElem?_map] at h1
  cases hi : is[k]? with
  | none => rw [hi] at h1; cases h1
  | some i => rw [hi] at h1; exact h i q (Option.some.inj h1)
theorem k_and {γ : kΓ} {l : Launch} {y : MethodName} {cc : ByteArray} {maxL : Nat} {ret : Option FieldType} {r1 r2 : Room} {av : List Value} {ws wc : va_W} {post1 post2 : Option Value → va_W → Prop} (h1 : kM γ l y cc maxL ret r1 av ws post1) (h2 : kM γ l y cc maxL ret r2 av wc post2)
    (hr : r2.frames ≤ r1.frames ∧ r2.locals ≤ r1.locals ∧ r2.cells ≤ r1.cells ∧ r2.slots ≤ r1.slots) (is : List Nat) (hn : va_nd is = true) (hs : is.map (fun i => ws[i]?) = wc.map some) :
    kM γ l y cc maxL ret r1 av ws (fun r w1 => post1 r w1 ∧ ∃ (H : Heap) (w2 : va_W), post2 r w2 ∧ va_P γ.1 vwCl w1 H ∧ va_P γ.1 vwCl w2 H) := by
  intro sz p e ha hcs hk s m args below hfr happ hP hK
  obtain ⟨n, o, a1, a2, a3, a4⟩ := h1 sz p e ha hcs hk s m args below hfr happ hP hK
  obtain ⟨b1, b2, b3, b4, b5, b6, b7, b8⟩ := (Spec.appliesLoose_iff hfr).mp happ
  have hP2 : kP γ av wc sz args s := ⟨hP.1, hP.2.1, k_Psub hP.2.2.1 is hs, hP.2.2.2.1.sub is hn hs, hP.2.2.2.2⟩
  obtain ⟨n', o', c1, c2, c3, c4⟩ := h2 sz p e ha hcs hk s m args below hfr ((Spec.appliesLoose_iff hfr).mpr ⟨b1, b2, b3, b4, b5, b6, k_room hr.1 hr.2.1 hr.2.2.1 hr.2.2.2 b7, b8⟩) hP2 hK
  obtain ⟨en, eo⟩ := the_end_unique (f := fun k => stepsAlone p.tables e k s) a1 a3 c1 c3
  subst en
  subst eo
  obtain ⟨⟨⟨r, w1, e1, e2, e3, e4⟩, e5⟩, e6⟩ := a4
  obtain ⟨⟨⟨r', w2, g1, g2, g3, g4⟩, g5⟩, g6⟩ := c4
  rw [e1] at g1
  cases g1
  exact ⟨n, o, a1, a2, a3, ⟨⟨r, w1, e1, ⟨e2, _, w2, g2, e3, g3⟩, e3, e4⟩, e5⟩, e6⟩
/-- two pictures of one cell -/
theorem b_atO {D : va_G} {cl : List vw_C} {a ci : Nat} {fs gs : List Value} {H : Heap} {r : vw_C} (hr : cl[ci]? = some r) (h1 : va_at D cl (a, .inr (ci, fs)) H) (h2 : va_at D cl (a, .inr (ci, gs)) H) : ∀ k, k < r.2.2 → vp_V fs k = vp_V gs k := by
  obtain ⟨r1, e1, c1, p1, -, -, q1⟩ := h1
  obtain ⟨r2, e2, c2, p2, -, -, q2⟩ := h2
  have e1 : cl[ci]? = some r1 := e1
  have e2 : cl[ci]? = some r2 := e2
  rw [hr] at e1 e2
  cases e1
  cases e2
  have p1 : H[a]? = some c1 := p1
  have p2 : H[a]? = some c2 := p2
  rw [p1] at p2
  cases p2
  intro k hk
  have z1 := q1 k hk
  rw [q2 k hk] at z1
  exact (Option.some.inj z1).symm
theorem b_atI {D : va_G} {cl : List vw_C} {a n m : Nat} {cA cB : ClassId} {f g : Nat → Int32} {H : Heap} (h1 : va_at D cl (a, .inl (cA, n, .inl f)) H) (h2 : va_at D cl (a, .inl (cB, m, .inl g)) H) : n = m ∧ ∀ k, k < n → f k = g k := by
  have h1 : H[a]? = some (arrV cA n (fun j => .int (f j))) := h1
  have h2 : H[a]? = some (arrV cB m (fun j => .int (g j))) := h2
  rw [h1] at h2
  have e := Option.some.inj h2
  have e1 := congrArg (fun c : Cell => c.slots.size) e
  simp only [arrV_size] at e1
  subst e1
  refine ⟨rfl, fun k hk => ?_⟩
  have e2 := congrArg (fun c : Cell => c.slots[k]?) e
  simp only [arrV_read _ _ hk] at e2
  exact Value.int.inj (Option.some.inj e2)
theorem b_atL {D : va_G} {cl : List vw_C} {a n m : Nat} {cA cB : ClassId} {f g : Nat → Int64} {H : Heap} (h1 : va_at D cl (a, .inl (cA, n, .inr (.inl f))) H) (h2 : va_at D cl (a, .inl (cB, m, .inr (.inl g))) H) : n = m ∧ ∀ k, k < n → f k = g k := by
  have h1 : H[a]? = some (arrV cA n (fun j => .long (f j))) := h1
  have h2 : H[a]? = some (arrV cB m (fun j => .long (g j))) := h2
  rw [h1] at h2
  have e := Option.some.inj h2
  have e1 := congrArg (fun c : Cell => c.slots.size) e
  simp only [arrV_size] at e1
  subst e1
  refine ⟨rfl, fun k hk => ?_⟩
  have e2 := congrArg (fun c : Cell => c.slots[k]?) e
  simp only [arrV_read _ _ hk] at e2
  exact Value.long.inj (Option.some.inj e2)
/-! slots of the typed world -/
def qsl2 (ws : va_W) (q k : Nat) : Option Value := match ws[q]? with
  | some c => qrd c.2 k
  | none => none
theorem q_kp2 {D : qWd} {γ : kΓ} {adr : List Nat} {ms : qMods} {ws w1 : va_W} (h0 : qH D γ adr (fun _ _ => False) ws) (h1 : qH D γ adr (fun _ _ => False) w1) (hK : qK D ms ws w1) {q g k : Nat} (hg : D.1[q]? = some g) (hm : qmod ms g k = false) : qsl2 w1 q k = qsl2 ws q k := by
  have hl := (List.getElem?_eq_some_iff.mp hg).1
  have l0 : q < ws.length := by rw [h0.2.1]; exact hl
  have l1 : q < w1.length := by rw [h1.2.1]; exact hl
  unfold qsl2
  rw [List.getElem?_eq_getElem l0, List.getElem?_eq_getElem l1]
  exact hK q g _ _ _ _ hg (List.getElem?_eq_getElem l0) (List.getElem?_eq_getElem l1) k hm
theorem q_post0 {D : qWd} {γ : kΓ} {X : va_W → Prop} {c : qCon} {adr : List Nat} {ws w1 : va_W} {av : List Value} {r : Option Value} {q k : Nat} (hc : c.2.2.2.2.1.all (fun t => t.2.1.contains (q, k, 0, 0)) = true) (h : qPost D γ X c adr ws av r w1) : qsl2 w1 q k = some (.int 0) := by
  obtain ⟨-, -, -, t, t1, t2⟩ := h
  have h1 := List.all_eq_true.mp hc t t1
  obtain ⟨x, x1, x2⟩ := t2.2.1 (q, k, 0, 0) (by simpa using h1)
  have x2 : (0 : Int) ≤ x ∧ x ≤ 0 := x2
  unfold qval at x1
  unfold qsl2
  simp only at x1
  split at x1
  · rename_i c hc
    split at x1
    · rename_i y hy
      rw [hc]
      show qrd c.2 k = _
      rw [hy]
      have x1 := Option.some.inj x1
      have : y = 0 := by
        apply Int32.toInt_inj.mp
        rw [show (0 : Int32).toInt = 0 from by decide]
        omega
      rw [this]
    · cases x1
  · cases x1
/-- a typed object, a typed row of ints -/
theorem q_objAt {D : qWd} {γ : kΓ} {adr : List Nat} {ws : va_W} {q g a ci N : Nat} {sg : List (Nat × qTy)} (hH : qH D γ adr (fun _ _ => False) ws) (hg : D.1[q]? = some g) (hr : D.2.1[g]? = some (10 + ci, N, sg)) (ha : adr[q]? = some a) : ∃ fs, ws[q]? = some (a, .inr (ci, fs)) ∧ fs.length = N ∧ ∀ k, k < N → ∃ v, fs[k]? = some v ∧ qvT D γ adr (qsg sg k) v := by
  rw [← hH.1, List.getElem?_map, Option.map_eq_some_iff] at ha
  obtain ⟨⟨b, c⟩, h1, h2⟩ := ha
  have h2 : b = a := h2
  subst h2
  obtain ⟨r, r1, r2, r3⟩ := hH.2.2 q g b c hg h1
  rw [hr] at r1
  cases r1
  cases c with
  | inl v =>
    obtain ⟨-, -, -, h⟩ := r2
    exfalso
    split at h
    · rcases h with h | h | h <;> (simp only at h; omega)
    · simp only at h; omega
    · rcases h with h | h <;> (simp only at h; omega)
    · exact h
  | inr o =>
    obtain ⟨e1, e2⟩ := r2
    have e1 : 10 + ci = 10 + o.1 := e1
    have e1 : ci = o.1 := by omega
    subst e1
    exact ⟨o.2, h1, e2, fun k hk => (r3 k hk).elim (fun h => h.elim) (fun h => h)⟩
theorem q_arrAt {D : qWd} {γ : kΓ} {adr : List Nat} {ws : va_W} {q g a tp N : Nat} {sg : List (Nat × qTy)} (hH : qH D γ adr (fun _ _ => False) ws) (hg : D.1[q]? = some g) (hr : D.2.1[g]? = some (tp, N, sg)) (ht : tp = 0 ∨ tp = 2 ∨ tp = 3) (ha : adr[q]? = some a) : ∃ f : Nat → Int32, ws[q]? = some (a, .inl (γ.2.1 tp, N, .inl f)) ∧ ∀ k, k < N → qvT D γ adr (qsg sg k) (.int (f k)) := by
  rw [← hH.1, List.getElem?_map, Option.map_eq_some_iff] at ha
  obtain ⟨⟨b, c⟩, h1, h2⟩ := ha
  have h2 : b = a := h2
  subst h2
  obtain ⟨r, r1, r2, r3⟩ := hH.2.2 q g b c hg h1
  rw [hr] at r1
  cases r1
  cases c with
  | inr o =>
    obtain ⟨e1, e2⟩ := r2
    have e1 : tp = 10 + o.1 := e1
    exfalso; omega
  | inl v =>
    obtain ⟨cv, n, fv⟩ := v
    obtain ⟨e1, e2, e3, h⟩ := r2
    have e1 : cv = γ.2.1 tp := e1
    have e2 : n = N := e2
    subst e1
    subst e2
    cases fv with
    | inl f =>
      refine ⟨f, h1, fun k hk => ?_⟩
      rcases r3 k hk with h9 | ⟨v, v1, v2⟩
      · exact h9.elim
      · have v1 : (if k < n then some (Value.int (f k)) else none) = some v := v1
        rw [if_pos hk] at v1
        cases v1
        exact v2
    | inr f =>
      exfalso
      cases f with
      | inl f => have h : tp = 1 := h; omega
      | inr f =>
        cases f with
        | inl f => exact h
        | inr f =>
          cases f with
          | inl f => exact h
          | inr f => have h : tp = 4 ∨ tp = 5 := h; omega
/-- a reference to what is there once -/
theorem q_sg2 {D : qWd} {γ : kΓ} {adr : List Nat} (hD : qDok D = true) {g : Nat} {v : Value} (hg : g < D.2.2) (h : qvT D γ adr (2, (g : Int), 0) v) : ∃ a, v = .ref a ∧ adr[g]? = some a := by
  obtain ⟨a, e, h8⟩ := h.2.2 rfl
  refine ⟨a, e, ?_⟩
  have h9 : qinR D γ adr g a := h8
  rcases h9 with ⟨h1, -⟩ | ⟨q, h1, h2⟩
  · have := (q_Dok hD).1
    have h1 : g = 77 := h1
    omega
  · have := (q_Dok hD).2.2.1 q g h1 hg
    rw [← this]; exact h2

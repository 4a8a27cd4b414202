/-! the typed world with one slot set -/
theorem fst_set {ws : va_W} {p a : Nat} {c d : va_E} (he : ws[p]? = some (a, c)) : (ws.set p (a, d)).map Prod.fst = ws.map Prod.fst := by
  apply List.ext_getElem?
  intro i
  rw [List.getElem?_map, List.getElem?_map, List.getElem?_set]
  by_cases h : p = i
  · subst h
    rw [if_pos rfl, if_pos (List.getElem?_eq_some_iff.mp he).1, he]
    rfl
  · rw [if_neg h]
section QSET
variable {D : qWd} {γ : kΓ} {adr : List Nat} {ws : va_W} {p g ci N k a : Nat} {sg : List (Nat × qTy)} {fs : List Value} {v : Value}
theorem q_setO (hH : qH D γ adr (fun _ _ => False) ws) (hg : D.1[p]? = some g) (hr : D.2.1[g]? = some (10 + ci, N, sg)) (he : ws[p]? = some (a, .inr (ci, fs))) (hv : qvT D γ adr (qsg sg k) v) : qH D γ adr (fun _ _ => False) (ws.set p (a, .inr (ci, fs.set k v))) := by
  obtain ⟨h1, h2, h3⟩ := hH
  refine ⟨(fst_set he).trans h1, by rw [List.length_set]; exact h2, fun q g' a' c' hg' hc' => ?_⟩
  rw [List.getElem?_set] at hc'
  by_cases h : p = q
  · subst h
    rw [if_pos rfl, if_pos (List.getElem?_eq_some_iff.mp he).1] at hc'
    cases hc'
    rw [hg] at hg'
    cases hg'
    obtain ⟨r, r1, r2, r3⟩ := h3 p g a _ hg he
    rw [hr] at r1
    cases r1
    refine ⟨_, hr, ⟨r2.1, by show (fs.set k v).length = _; rw [List.length_set]; exact r2.2⟩, fun j hj => ?_⟩
    by_cases hjk : k = j
    · subst hjk
      have hl : k < fs.length := by
        rw [show fs.length = N from r2.2]
        exact hj
      refine .inr ⟨v, ?_, hv⟩
      show (fs.set k v)[k]? = some v
      rw [List.getElem?_set, if_pos rfl, if_pos hl]
    · rcases r3 j hj with h9 | ⟨u, u1, u2⟩
      · exact .inl h9
      · refine .inr ⟨u, ?_, u2⟩
        show (fs.set k v)[j]? = some u
        rw [List.getElem?_set, if_neg hjk]
        exact u1
  · rw [if_neg h] at hc'
    exact h3 q g' a' c' hg' hc'
theorem qsl_same (he : ws[p]? = some (a, .inr (ci, fs))) {q j : Nat} (h : ¬ (q = p ∧ j = k)) : qsl2 (ws.set p (a, .inr (ci, fs.set k v))) q j = qsl2 ws q j := by
  unfold qsl2
  rw [List.getElem?_set]
  by_cases hq : p = q
  · subst hq
    rw [if_pos rfl, if_pos (List.getElem?_eq_some_iff.mp he).1, he]
    show (fs.set k v)[j]? = fs[j]?
    rw [List.getElem?_set, if_neg (fun e => h ⟨rfl, e.symm⟩)]
  · rw [if_neg hq]
theorem qsl_here (he : ws[p]? = some (a, .inr (ci, fs))) (hk : k < fs.length) : qsl2 (ws.set p (a, .inr (ci, fs.set k v))) p k = some v := by
  unfold qsl2
  rw [List.getElem?_set, if_pos rfl, if_pos (List.getElem?_eq_some_iff.mp he).1]
  show (fs.set k v)[k]? = some v
  rw [List.getElem?_set, if_pos rfl, if_pos hk]
theorem qK_set {ms : qMods} {w0 : va_W} (hK : qK D ms w0 ws) (hg : D.1[p]? = some g) (he : ws[p]? = some (a, .inr (ci, fs))) (hm : qmod ms g k = true) : qK D ms w0 (ws.set p (a, .inr (ci, fs.set k v))) := by
  intro q g' b c b' c' hg' h0 h1 j hj
  rw [List.getElem?_set] at h1
  by_cases hq : p = q
  · subst hq
    rw [if_pos rfl, if_pos (List.getElem?_eq_some_iff.mp he).1] at h1
    cases h1
    rw [hg] at hg'
    cases hg'
    have hjk : ¬ k = j := fun e => by
      subst e
      rw [hm] at hj
      cases hj
    rw [← hK p g b c a _ hg h0 he j hj]
    show (fs.set k v)[j]? = fs[j]?
    rw [List.getElem?_set, if_neg hjk]
  · rw [if_neg hq] at h1
    exact hK q g' b c b' c' hg' h0 h1 j hj
theorem q_arrF {q t : Nat} (hH : qH D γ adr (fun _ _ => False) ws) (hg : D.1[q]? = some g) (hr : D.2.1[g]? = some (t, N, sg)) (ht : t = 4 ∨ t = 5) (ha : adr[q]? = some a) : ∃ f : Nat → Option Nat, ws[q]? = some (a, .inl (γ.2.1 t, N, .inr (.inr (.inr (.inr f))))) := by
  rw [← hH.1, List.getElem?_map, Option.map_eq_some_iff] at ha
  obtain ⟨⟨b, c⟩, h1, h2⟩ := ha
  have h2 : b = a := h2
  subst h2
  obtain ⟨r, r1, r2, r3⟩ := hH.2.2 q g b c hg h1
  rw [hr] at r1
  cases r1
  cases c with
  | inr o =>
    obtain ⟨e1, e2⟩ := r2
    have e1 : t = 10 + o.1 := e1
    exfalso; omega
  | inl w =>
    obtain ⟨cv, n, fv⟩ := w
    obtain ⟨e1, e2, e3, h⟩ := r2
    have e1 : cv = γ.2.1 t := e1
    have e2 : n = N := e2
    subst e1
    subst e2
    cases fv with
    | inl f =>
      have h : t = 0 ∨ t = 2 ∨ t = 3 := h
      exfalso; omega
    | inr f =>
      cases f with
      | inl f =>
        have h : t = 1 := h
        exfalso; omega
      | inr f =>
        cases f with
        | inl f => exact h.elim
        | inr f =>
          cases f with
          | inl f => exact h.elim
          | inr f => exact ⟨f, h1⟩
end QSET
/-! the marks: which are laid -/
def cL (w : va_W) (L : Nat → Int32) : Prop := ∃ pm : Nat → Nat, (∀ k, k < 4 → cD.1[pm k]? = some 37 ∧ rT w 5 k (pm k) ∧ qsl2 w (pm k) 5 = some (.int (L k))) ∧ (∀ j k, j < 4 → k < 4 → pm j = pm k → j = k) ∧ ∀ k, k < 4 → L k = 0 ∨ L k = 1
def mL (w : va_W) (L : Nat → Int32) : Prop := ∀ k, k < 4 → qsl2 w 36 k = some (.int (L k))
def lL (wx wm : va_W) : Prop := ∃ L : Nat → Int32, cL wx L ∧ mL wm L
def cLfree (ms : qMods) : Bool := ms.all (fun m => !(m.1 == 5)) && !(qmod ms 37 5)
theorem cL_tr {w w' : va_W} {L : Nat → Int32} (hf : w'.map Prod.fst = w.map Prod.fst) (h5 : ∀ k, qsl2 w' 5 k = qsl2 w 5 k) (hp : ∀ p, cD.1[p]? = some 37 → qsl2 w' p 5 = qsl2 w p 5) (h : cL w L) : cL w' L := by
  obtain ⟨pm, h1, h2, h3⟩ := h
  exact ⟨pm, fun k hk => ⟨(h1 k hk).1, rT_tr hf (h5 k) (h1 k hk).2.1, (hp _ (h1 k hk).1).trans (h1 k hk).2.2⟩, h2, h3⟩
theorem cL_keep {γ : kΓ} {adr : List Nat} {ms : qMods} {ws w1 : va_W} {L : Nat → Int32} (h0 : qH cD γ adr (fun _ _ => False) ws) (h1 : qH cD γ adr (fun _ _ => False) w1) (hK : qK cD ms ws w1) (hm : cLfree ms = true) (h : cL ws L) : cL w1 L := by
  unfold cLfree at hm
  rw [Bool.and_eq_true, Bool.not_eq_true'] at hm
  exact cL_tr (h1.1.trans h0.1.symm) (fun k => q_kp2 h0 h1 hK (q := 5) (g := 5) rfl (qm_none hm.1 k)) (fun p hp => q_kp2 h0 h1 hK hp hm.2) h
def mLfree (ms : qMods) : Bool := (List.range 4).all (fun k => !(qmod ms 36 k))
theorem mL_keep {γ : kΓ} {adr : List Nat} {ms : qMods} {ws w1 : va_W} {L : Nat → Int32} (h0 : qH mD γ adr (fun _ _ => False) ws) (h1 : qH mD γ adr (fun _ _ => False) w1) (hK : qK mD ms ws w1) (hm : mLfree ms = true) (h : mL ws L) : mL w1 L := by
  intro k hk
  have h8 := List.all_eq_true.mp hm k (List.mem_range.mpr hk)
  rw [Bool.not_eq_true'] at h8
  exact (q_kp2 h0 h1 hK (q := 36) (g := 36) rfl h8).trans (h k hk)
theorem cL_set {w : va_W} {L : Nat → Int32} {pm : Nat → Nat} {k a : Nat} {fs : List Value} {v : Int32} (hk : k < 4) (h1 : ∀ k, k < 4 → cD.1[pm k]? = some 37 ∧ rT w 5 k (pm k) ∧ qsl2 w (pm k) 5 = some (.int (L k))) (h2 : ∀ j k, j < 4 → k < 4 → pm j = pm k → j = k) (h3 : ∀ k, k < 4 → L k = 0 ∨ L k = 1) (he : w[pm k]? = some (a, .inr (3, fs))) (hl : 5 < fs.length) (hv : v = 0 ∨ v = 1) : cL (w.set (pm k) (a, .inr (3, fs.set 5 (.int v)))) (upd L k v) := by
  refine ⟨pm, fun j hj => ⟨(h1 j hj).1, rT_tr (fst_set he) (qsl_same he (fun h => ?_)) (h1 j hj).2.1, ?_⟩, h2, fun j hj => ?_⟩
  · exact g_ne h.1 (show cD.1[5]? = some 5 from rfl) (h1 k hk).1 (by decide)
  · unfold upd
    by_cases hjk : j = k
    · subst hjk
      rw [if_pos rfl]
      exact qsl_here he hl
    · rw [if_neg hjk, qsl_same he (fun h => hjk (h2 j k hj hk h.1))]
      exact (h1 j hj).2.2
  · unfold upd
    by_cases hjk : j = k
    · rw [if_pos hjk]; exact hv
    · rw [if_neg hjk]; exact h3 j hj
theorem cL_eq {w : va_W} {L L' : Nat → Int32} (h : ∀ k, k < 4 → L k = L' k) (hL : cL w L) : cL w L' := by
  obtain ⟨pm, h1, h2, h3⟩ := hL
  exact ⟨pm, fun k hk => ⟨(h1 k hk).1, (h1 k hk).2.1, by rw [← h k hk]; exact (h1 k hk).2.2⟩, h2, fun k hk => by rw [← h k hk]; exact h3 k hk⟩
/-- what mark answers, and what is laid behind it -/
def mkV (L : Nat → Int32) (th b : Int32) : Int32 := if 0 ≤ th.toInt ∧ th.toInt < 4 then (if b = 0 then 1 else if L th.toNatClampNeg = 0 then 0 else 1) else 0
def mkLa (L : Nat → Int32) (th b : Int32) : Nat → Int32 := if (0 ≤ th.toInt ∧ th.toInt < 4) ∧ b = 0 then upd L th.toNatClampNeg 1 else L
theorem mk_lo {L : Nat → Int32} {th b : Int32} (h : th < 0 ∨ ¬ th < 4) : mkV L th b = 0 ∧ mkLa L th b = L := by
  rw [Int32.lt_iff_toInt_lt, Int32.lt_iff_toInt_lt, show (0 : Int32).toInt = 0 from by decide, show (4 : Int32).toInt = 4 from by decide] at h
  exact ⟨if_neg (by omega), if_neg (by omega)⟩
theorem mk_in {L : Nat → Int32} {k : Nat} {b : Int32} (hk : k < 4) : mkV L (nI k) b = (if b = 0 then 1 else if L k = 0 then 0 else 1) ∧ mkLa L (nI k) b = if b = 0 then upd L k 1 else L := by
  unfold mkV mkLa
  rw [nI_toInt (by omega), nI_clamp (by omega), if_pos (by omega)]
  refine ⟨rfl, ?_⟩
  by_cases hb : b = 0
  · rw [if_pos ⟨by omega, hb⟩, if_pos hb]
  · rw [if_neg (fun h => hb h.2), if_neg hb]
theorem mk_cases (th : Int32) : (th < 0 ∨ ¬ th < 4) ∨ ∃ k, k < 4 ∧ th = nI k := by
  rw [Int32.lt_iff_toInt_lt, Int32.lt_iff_toInt_lt, show (0 : Int32).toInt = 0 from by decide, show (4 : Int32).toInt = 4 from by decide]
  by_cases h : th.toInt < 0 ∨ ¬ th.toInt < 4
  · exact .inl h
  · refine .inr ⟨th.toInt.toNat, by omega, Int32.toInt_inj.mp ?_⟩
    rw [nI_toInt (by omega)]
    omega
theorem v_z {D : qWd} {γ : kΓ} {adr : List Nat} {v : Int32} (h : v = 0 ∨ v = 1) : qvT D γ adr (0, 0, 1) (.int v) := ⟨fun _ => ⟨v, rfl, by rcases h with rfl | rfl <;> exact ⟨by decide, by decide⟩⟩, fun h => (by cases h), fun h => (by cases h)⟩
theorem q_rn {D : qWd} {γ : kΓ} {X : va_W → Prop} {c : qCon} {adr : List Nat} {ws w1 : va_W} {av : List Value} {r : Option Value} (hc : c.2.2.2.2.1.all (fun t => t.1.isNone) = true) (h : qPost D γ X c adr ws av r w1) : r = none := by
  obtain ⟨-, -, -, t, t1, t2⟩ := h
  have h1 := List.all_eq_true.mp hc t t1
  rcases t2.1 with ⟨-, h⟩ | ⟨ty, v, h, -⟩
  · exact h
  · rw [h] at h1
    cases h1
theorem nI_lt4 {k : Nat} (h : k < 4) : nI k < 4 := by
  rw [Int32.lt_iff_toInt_lt, nI_toInt (by omega), show (4 : Int32).toInt = 4 from by decide]
  omega
/-- the class's object: what its slots name -/
theorem c_now {γ : kΓ} {adr : List Nat} {w : va_W} {x : Nat} (hH : qH cD γ adr (fun _ _ => False) w) (hax : adr[0]? = some x) : ∃ (x0 x1 x2 x3 x4 x5 x6 x7 x8 x9 x10 pn : Nat) (fn fu : List Value) (fm : Nat → Option Nat), w[0]? = some (x, .inr (10, [.ref x0, .ref x1, .ref x2, .ref x3, .ref x4, .ref x5, .ref x6, .ref x7, .ref x8, .ref x9, .ref x10])) ∧ cD.1[pn]? = some 37 ∧ adr[pn]? = some x2 ∧ w[pn]? = some (x2, .inr (3, fn)) ∧ qvT cD γ adr (2, 37, 0) (.ref x2) ∧ w[3]? = some (x1, .inr (9, fu)) ∧ qvT cD γ adr (2, 3, 0) (.ref x1) ∧ w[5]? = some (x3, .inl (γ.2.1 4, 4, .inr (.inr (.inr (.inr fm))))) := by
  obtain ⟨x0, x1, x2, x3, x4, x5, x6, x7, x8, x9, x10, wr, hwx⟩ := c_x11 hH hax
  have h0 : w[0]? = some (x, .inr (10, [.ref x0, .ref x1, .ref x2, .ref x3, .ref x4, .ref x5, .ref x6, .ref x7, .ref x8, .ref x9, .ref x10])) := by rw [hwx]; rfl
  obtain ⟨fs0, f0, f1, f2⟩ := q_objAt hH (q := 0) (g := 0) (ci := 10) rfl rfl hax
  rw [h0] at f0
  cases f0
  obtain ⟨v0, e0, g2⟩ := f2 2 (by decide)
  cases e0
  have g2' : qvT cD γ adr (2, 37, 0) (.ref x2) := g2
  obtain ⟨pn, a, e0, h1, h2⟩ := q_refp (g := 37) (by decide) g2'
  cases e0
  obtain ⟨fn, k1, -, -⟩ := q_objAt hH (q := pn) (g := 37) (ci := 3) h1 rfl h2
  obtain ⟨v0, e0, g1⟩ := f2 1 (by decide)
  cases e0
  have g1' : qvT cD γ adr (2, 3, 0) (.ref x1) := g1
  obtain ⟨a, e0, h3⟩ := q_sg2 cDok (g := 3) (by decide) g1'
  cases e0
  obtain ⟨fu, k2, -, -⟩ := q_objAt hH (q := 3) (g := 3) (ci := 9) rfl rfl h3
  obtain ⟨v0, e0, g3⟩ := f2 3 (by decide)
  cases e0
  obtain ⟨a, e0, h5⟩ := q_sg2 cDok (g := 5) (by decide) g3
  cases e0
  obtain ⟨fm, k3⟩ := q_arrF hH (q := 5) (g := 5) (t := 4) rfl rfl (.inl rfl) h5
  exact ⟨x0, x1, x2, x3, x4, x5, x6, x7, x8, x9, x10, pn, fn, fu, fm, h0, h1, h2, k1, g2', k2, g1', k3⟩
theorem c_mkp {γ : kΓ} {adr : List Nat} {w : va_W} {x3 k p : Nat} {fm : Nat → Option Nat} (hH : qH cD γ adr (fun _ _ => False) w) (hm : w[5]? = some (x3, .inl (γ.2.1 4, 4, .inr (.inr (.inr (.inr fm)))))) (hk : k < 4) (hg : cD.1[p]? = some 37) (hr : rT w 5 k p) : ∃ (ap : Nat) (fs : List Value), va_rf (fm k) = .ref ap ∧ adr[p]? = some ap ∧ w[p]? = some (ap, .inr (3, fs)) ∧ fs.length = 6 ∧ qvT cD γ adr (2, 37, 0) (.ref ap) := by
  obtain ⟨ap, e1, e2⟩ := hr
  rw [hH.1] at e1
  have e3 : va_rf (fm k) = .ref ap := by
    unfold qsl2 at e2
    rw [hm] at e2
    have e2 : (if k < 4 then some (va_rf (fm k)) else none) = some (.ref ap) := e2
    rw [if_pos hk] at e2
    exact Option.some.inj e2
  obtain ⟨fs, h1, h2, -⟩ := q_objAt hH (q := p) (g := 37) (ci := 3) hg rfl e1
  exact ⟨ap, fs, e3, e1, h1, h2, fun h => (by cases h), fun h => (by cases h), fun _ => ⟨ap, rfl, .inr ⟨p, hg, e1⟩⟩⟩

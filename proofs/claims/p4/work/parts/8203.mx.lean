/-! what the reference's laws and lines keep -/
/-- a number in the world -/
def mGet (ws : va_W) (q k : Nat) : Int := match ws[q]? with
  | some c => (match qrd c.2 k with
    | some (.int x) => x.toInt
    | _ => 0)
  | none => 0
def mPop : List Nat → List Nat
  | 1 :: r => mPop r
  | s => s
/-- one code on the row of what is open (1: a not, 2: a parenthesis) -/
def mDl (s : List Nat) (c : Int) : Option (List Nat) :=
  if c = 28 then (if s.length < 5 then some (2 :: s) else none)
  else if c = 30 then (if s.length < 5 then some (1 :: s) else none)
  else if 20 ≤ c ∧ c ≤ 27 ∧ ¬ c = 23 then some s
  else if c = 29 then (match s with
    | [] => none
    | _ :: r => some (mPop r))
  else some (mPop s)
/-- n codes from f on -/
def mRun (g : Nat → Int) : Nat → Nat → List Nat → Option (List Nat)
  | 0, _, s => some s
  | n + 1, f, s => (mDl s (g f)).bind (mRun g n (f + 1))
def mXr : List Nat := [9, 10, 11, 24, 26]
def mX2 (ws : va_W) (j : Nat) : Prop := mGet ws 9 j < mGet ws 10 j → 0 ≤ mGet ws 9 j ∧ mGet ws 10 j ≤ 1000 ∧ (mRun (mGet ws 11) (mGet ws 10 j - mGet ws 9 j).toNat (mGet ws 9 j).toNat []).isSome = true
def mX1 (ws : va_W) (r : Nat) : Prop := ∀ k : Nat, (k : Int) < mGet ws 24 r → 0 ≤ mGet ws 26 (40 * r + k)
def mX (ws : va_W) : Prop := (∀ j, j < 2 → mX2 ws j) ∧ (∀ r, r < 6 → mX1 ws r)
theorem m_get {ws w1 : va_W} (he : ws.map Prod.fst = w1.map Prod.fst) {q : Nat} (h : ∀ (a a' : Nat) (c c' : va_E), ws[q]? = some (a, c) → w1[q]? = some (a', c') → ∀ k, qrd c' k = qrd c k) (k : Nat) : mGet w1 q k = mGet ws q k := by
  unfold mGet
  have hl : ws.length = w1.length := by have := congrArg List.length he; simpa using this
  cases h1 : ws[q]? with
  | none =>
    have : w1[q]? = none := by rw [List.getElem?_eq_none_iff] at h1 ⊢; omega
    rw [this]
  | some c =>
    cases h2 : w1[q]? with
    | none => rw [List.getElem?_eq_none_iff] at h2; have := (List.getElem?_eq_some_iff.mp h1).1; omega
    | some c' =>
      simp only
      rw [h c.1 c'.1 c.2 c'.2 h1 h2 k]
theorem m_dep : qdep mD mXr mX := by
  intro ws w1 he h hx
  have g : ∀ q, q ∈ mXr → ∀ k, mGet w1 q k = mGet ws q k := fun q hq k => m_get he (fun a a' c c' h1 h2 k => h q q a a' c c' (by
    unfold mXr at hq
    simp only [List.mem_cons, List.mem_nil_iff, or_false] at hq
    rcases hq with rfl | rfl | rfl | rfl | rfl <;> decide +kernel) hq h1 h2 k) k
  have g9 : mGet w1 9 = mGet ws 9 := funext (g 9 (by decide))
  have g10 : mGet w1 10 = mGet ws 10 := funext (g 10 (by decide))
  have g11 : mGet w1 11 = mGet ws 11 := funext (g 11 (by decide))
  have g24 : mGet w1 24 = mGet ws 24 := funext (g 24 (by decide))
  have g26 : mGet w1 26 = mGet ws 26 := funext (g 26 (by decide))
  refine ⟨fun j hj => ?_, fun r hr => ?_⟩
  · unfold mX2
    rw [g9, g10, g11]
    exact hx.1 j hj
  · unfold mX1
    rw [g24, g26]
    exact hx.2 r hr
theorem m_xok (adr : List Nat) (ws : va_W) (q g a : Nat) (c : va_E) (hg : mD.1[q]? = some g) (hx : ¬ g ∈ mXr) (he : ws.map Prod.fst = adr) (ha : adr[q]? = some a) (h : mX ws) : mX (ws.set q (a, c)) := q_depW m_dep adr ws q g a c hg hx he ha h
theorem m_up {γ : kΓ} {l : Launch} {c : qCon} (hm : c.2.2.2.2.2.all (fun m => !(mXr.contains m.1)) = true) (h : qSem γ l mD (fun _ => True) mMT c) : qSem γ l mD mX mMT c := q_up m_dep hm h

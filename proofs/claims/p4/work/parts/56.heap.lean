/-! the typed heap -/
def qDok (D : qWd) : Bool := Nat.ble D.2.2 77 && (List.range D.2.2).all (fun n => D.1[n]? == some n) && (List.range D.1.length).all (fun q => match D.1[q]? with | some g => Nat.ble D.2.2 g || g == q | none => true) && (List.range D.1.length).all (fun q => !(D.1[q]? == some qWR))
def qD (D : qWd) : Prop := D.2.2 ≤ 77 ∧ (∀ n, n < D.2.2 → D.1[n]? = some n) ∧ (∀ q g : Nat, D.1[q]? = some g → g < D.2.2 → q = g) ∧ (∀ q : Nat, ¬ D.1[q]? = some qWR)
theorem q_Dok {D : qWd} (h : qDok D = true) : qD D := by
  unfold qDok at h
  simp only [Bool.and_eq_true, List.all_eq_true, List.mem_range, Nat.ble_eq, beq_iff_eq] at h
  obtain ⟨⟨⟨h1, h2⟩, h3⟩, h4⟩ := h
  refine ⟨h1, h2, fun q g hg hl => ?_, fun q hq => ?_⟩
  · have h5 := h3 q (List.getElem?_eq_some_iff.mp hg).1
    rw [hg] at h5
    simp only [Bool.or_eq_true, Nat.ble_eq, beq_iff_eq] at h5
    omega
  · have h5 := h4 q (List.getElem?_eq_some_iff.mp hq).1
    rw [hq] at h5
    simp at h5
def qrg (D : qWd) (M : qM) (n : Nat) : Option Nat := if n < D.2.2 then some n else M.1[n - D.2.2]?
section QH
variable {D : qWd} {γ : kΓ} {adr : List Nat} {σ : qσ} {ρ : qρ} {M : qM} {ws : va_W}
theorem q_adr (hH : qsM D γ adr σ ρ M ws) {q a : Nat} (h : adr[q]? = some a) : ∃ c, ws[q]? = some (a, c) := by
  obtain ⟨h1, h2, -⟩ := hH.2.2.2.2
  rw [← h1, List.getElem?_map, Option.map_eq_some_iff] at h
  obtain ⟨⟨a', c⟩, e1, e2⟩ := h
  exact ⟨c, by rw [e1]; simp only at e2; rw [e2]⟩
theorem q_adr2 (hH : qsM D γ adr σ ρ M ws) {q a : Nat} {c : va_E} (h : ws[q]? = some (a, c)) : adr[q]? = some a := by
  rw [← hH.2.2.2.2.1, List.getElem?_map, h]; rfl
theorem q_reg (hH : qsM D γ adr σ ρ M ws) {q a : Nat} {c : va_E} (h : ws[q]? = some (a, c)) : ∃ g, D.1[q]? = some g := by
  have h1 := (List.getElem?_eq_some_iff.mp h).1
  rw [hH.2.2.2.2.2.1] at h1
  exact ⟨_, List.getElem?_eq_getElem h1⟩
/-- the cell that a reference names -/
theorem q_cell (hD : qD D) (hH : qsM D γ adr σ ρ M ws) {n g a : Nat} (hg : qrg D M n = some g) (hw : ¬ g = qWR) (ha : ρ n = some a) : ∃ (q : Nat) (c : va_E) (r : qRT), D.1[q]? = some g ∧ ws[q]? = some (a, c) ∧ D.2.1[g]? = some r ∧ qsh γ r c ∧ ∀ k, k < r.2.1 → qexA ρ M.2.2 a k ∨ ∃ v, qrd c k = some v ∧ qvT D γ adr (qsg r.2.2 k) v := by
  have key : ∃ q : Nat, D.1[q]? = some g ∧ adr[q]? = some a := by
    unfold qrg at hg
    split at hg
    · rename_i hn
      cases hg
      exact ⟨n, hD.2.1 n hn, by rw [← hH.1 n hn]; exact ha⟩
    · rename_i hn
      obtain ⟨b, h1, h2⟩ := hH.2.1 _ _ hg
      rw [show D.2.2 + (n - D.2.2) = n by omega, ha] at h1
      cases h1
      rcases h2 with ⟨h3, -⟩ | h3
      · exact absurd h3 hw
      · exact h3
  obtain ⟨q, h1, h2⟩ := key
  obtain ⟨c, h3⟩ := q_adr hH h2
  obtain ⟨r, h4, h5, h6⟩ := hH.2.2.2.2.2.2 q g a c h1 h3
  exact ⟨q, c, r, h1, h3, h4, h5, h6⟩
/-- a reference of a region, as a value -/
theorem q_sing (hD : qD D) (hH : qsM D γ adr σ ρ M ws) {g a : Nat} (hg : g < D.2.2) (ha : qinR D γ adr g a) : ρ g = some a := by
  rcases ha with ⟨h1, -⟩ | ⟨q, h1, h2⟩
  · exact absurd h1 (by have := hD.1; unfold qWR; omega)
  · have := hD.2.2.1 q g h1 hg
    subst this
    rw [hH.1 q hg]; exact h2
/-- a slot is read -/
def qrs (D : qWd) (N : qN) (M : qM) (n k : Nat) (r : qRT) : Option (qN × qM × AV) :=
  if Nat.blt k 10000 then (match M.2.1.find? (fun e => e.1 == n && e.2.1 == k) with
  | some e => some (N, M, e.2.2)
  | none => if M.2.2.all (fun e => !(e.2 == k)) then (match qsg r.2.2 k with
    | (0, iv) => some ((qfr N iv).1, (M.1, (n, k, (qfr N iv).2) :: M.2.1, M.2.2), (qfr N iv).2)
    | (1, iv) => some ((qfrL N iv).1, (M.1, (n, k, (qfrL N iv).2) :: M.2.1, M.2.2), (qfrL N iv).2)
    | (2, g, _) => if g.toNat < D.2.2 then some (N, (M.1, (n, k, (3, g.toNat, 0)) :: M.2.1, M.2.2), (3, g.toNat, 0)) else some (N, (M.1 ++ [g.toNat], (n, k, (3, D.2.2 + M.1.length, 0)) :: M.2.1, M.2.2), (3, D.2.2 + M.1.length, 0))
    | _ => none) else none) else none
theorem q_addx (hH : qsM D γ adr σ ρ M ws) {n k a q i : Nat} {c : va_E} {v : Value} {av : AV} (hc : ws[q]? = some (a, c)) (ha : ρ n = some a) (hv : qrd c i = some v) (hr : qR σ ρ av v) (hk : qix σ k i) : qsM D γ adr σ ρ (M.1, (n, k, av) :: M.2.1, M.2.2) ws := by
  refine ⟨hH.1, hH.2.1, hH.2.2.1, fun n' k' av' hm => ?_, hH.2.2.2.2⟩
  rcases List.mem_cons.mp hm with h | h
  · cases h
    exact ⟨q, a, c, v, i, hc, ha, hv, hr, hk⟩
  · exact hH.2.2.2.1 n' k' av' h
theorem q_addm (hH : qsM D γ adr σ ρ M ws) {n k a q : Nat} {c : va_E} {v : Value} {av : AV} (hk : k < 10000) (hc : ws[q]? = some (a, c)) (ha : ρ n = some a) (hv : qrd c k = some v) (hr : qR σ ρ av v) : qsM D γ adr σ ρ (M.1, (n, k, av) :: M.2.1, M.2.2) ws := by
  exact q_addx hH hc ha hv hr (.inl ⟨hk, rfl⟩)
theorem q_rs (hD : qD D) {N : qN} (hN : qsN D σ N) (hH : qsM D γ adr σ ρ M ws) {n a q k : Nat} {c : va_E} {r : qRT} (hdis : ∀ (i j : Nat) (p q : Nat × va_E), ws[i]? = some p → ws[j]? = some q → p.1 = q.1 → i = j) (hc : ws[q]? = some (a, c)) (ha : ρ n = some a) (hty : ∀ k, k < r.2.1 → qexA ρ M.2.2 a k ∨ ∃ v, qrd c k = some v ∧ qvT D γ adr (qsg r.2.2 k) v) (hk : k < r.2.1) {z : qN × qM × AV} (hz : qrs D N M n k r = some z) :
    ∃ (σ' : qσ) (ρ' : qρ) (v : Value), qle1 σ σ' ∧ qle2 ρ ρ' ∧ qsN D σ' z.1 ∧ qsM D γ adr σ' ρ' z.2.1 ws ∧ qrd c k = some v ∧ qR σ' ρ' z.2.2 v := by
  unfold qrs at hz
  split at hz
  · rename_i hk10
    rw [Nat.blt_eq] at hk10
    split at hz
    · rename_i e he
      cases hz
      have h1 := List.find?_some he
      simp only [Bool.and_eq_true, beq_iff_eq] at h1
      obtain ⟨n', k', av⟩ := e
      obtain ⟨q', a', c', v, ix, g1, g2, g3, g4, g5⟩ := hH.2.2.2.1 n' k' av (List.mem_of_find?_eq_some he)
      simp only at h1
      obtain ⟨rfl, rfl⟩ := h1
      have hix : ix = k' := by
        rcases g5 with ⟨-, h5⟩ | ⟨h5, -⟩
        · exact h5
        · omega
      subst hix
      rw [ha] at g2
      cases g2
      have := hdis q' q _ _ g1 hc rfl
      subst this
      rw [hc] at g1
      cases g1
      exact ⟨σ, ρ, v, fun _ _ h => h, fun _ _ h => h, hN, hH, g3, g4⟩
    · split at hz
      · rename_i hex
        simp only [List.all_eq_true, Bool.not_eq_true', beq_eq_false_iff_ne, ne_eq] at hex
        have hv : ∃ v, qrd c k = some v ∧ qvT D γ adr (qsg r.2.2 k) v := by
          rcases hty k hk with ⟨m, h1, -⟩ | h
          · exact absurd rfl (hex _ h1)
          · exact h
        obtain ⟨v, hv1, hv2⟩ := hv
        split at hz
        · rename_i iv heq
          cases hz
          rw [heq] at hv2
          obtain ⟨x, rfl, hx⟩ := hv2.1 rfl
          obtain ⟨σ', s1, s2, s3⟩ := q_fr (ρ := ρ) hN hx
          exact ⟨σ', ρ, _, s1, fun _ _ h => h, s2, q_addm (hH.monoσ s1) hk10 hc ha hv1 s3, hv1, s3⟩
        · rename_i iv heq
          cases hz
          rw [heq] at hv2
          obtain ⟨x, rfl, hx⟩ := hv2.2.1 rfl
          obtain ⟨σ', s1, s2, s3⟩ := q_frL (ρ := ρ) hN hx
          exact ⟨σ', ρ, _, s1, fun _ _ h => h, s2, q_addm (hH.monoσ s1) hk10 hc ha hv1 s3, hv1, s3⟩
        · rename_i g _ heq
          rw [heq] at hv2
          obtain ⟨b, rfl, hb⟩ := hv2.2.2 rfl
          simp only at hb
          split at hz
          · rename_i hlt
            cases hz
            have hs := q_sing hD hH hlt hb
            have hr : qR σ ρ (3, g.toNat, 0) (.ref b) := .inr (.inr (.inr ⟨rfl, b, rfl, hs⟩))
            exact ⟨σ, ρ, _, fun _ _ h => h, fun _ _ h => h, hN, q_addm hH hk10 hc ha hv1 hr, hv1, hr⟩
          · cases hz
            obtain ⟨ρ', s1, s2, s3⟩ := q_frR hH hb
            have hr : qR σ ρ' (3, D.2.2 + M.1.length, 0) (.ref b) := .inr (.inr (.inr ⟨rfl, b, rfl, s3⟩))
            exact ⟨σ, ρ', _, fun _ _ h => h, s1, hN, q_addm s2 hk10 hc (s1 _ _ ha) hv1 hr, hv1, hr⟩
        · cases hz
      · cases hz
  · cases hz
end QH
/-- of slots i1 .. i2 all, as one type -/
def qjn (t : Nat) : List (Nat × qTy) → Nat → Nat → Option qIv
  | [], _, _ => none
  | (e, ty) :: r, i1, i2 => if i2 < e then (if ty.1 = t then some ty.2 else none)
    else if i1 < e then (if ty.1 = t then (match qjn t r i1 i2 with
      | some j => some (qmin ty.2.1 j.1, qmax ty.2.2 j.2)
      | none => none) else none)
    else qjn t r i1 i2
theorem q_jn {t : Nat} : ∀ {l : List (Nat × qTy)} {i1 i2 : Nat} {j : qIv}, qjn t l i1 i2 = some j → ∀ k, i1 ≤ k → k ≤ i2 → (qsg l k).1 = t ∧ j.1 ≤ (qsg l k).2.1 ∧ (qsg l k).2.2 ≤ j.2
  | [], _, _, _, h, _, _, _ => by simp [qjn] at h
  | (e, ty) :: r, i1, i2, j, h, k, h1, h2 => by
    unfold qjn at h
    unfold qsg
    split at h
    · rename_i h3
      rw [if_pos (by omega)]
      split at h
      · rename_i h4; cases h; exact ⟨h4, Int.le_refl _, Int.le_refl _⟩
      · cases h
    · split at h
      · split at h
        · rename_i h4
          split at h
          · rename_i j' hj
            cases h
            by_cases h5 : k < e
            · rw [if_pos h5]
              refine ⟨h4, ?_, ?_⟩
              · simp only [qmin]; split <;> omega
              · simp only [qmax]; split <;> omega
            · rw [if_neg h5]
              obtain ⟨g1, g2, g3⟩ := q_jn hj k h1 h2
              refine ⟨g1, ?_, ?_⟩
              · simp only [qmin]; split <;> omega
              · simp only [qmax]; split <;> omega
          · cases h
        · cases h
      · rename_i h3 h4
        rw [if_neg (by omega)]
        exact q_jn h k h1 h2
/-- slots i1 .. i2 all take it -/
def qac (P : qTy → Bool) : List (Nat × qTy) → Nat → Nat → Bool
  | [], _, _ => P (9, 0, 0)
  | (e, ty) :: r, i1, i2 => if i2 < e then P ty else if i1 < e then P ty && qac P r i1 i2 else qac P r i1 i2
theorem q_ac {P : qTy → Bool} : ∀ {l : List (Nat × qTy)} {i1 i2 : Nat}, qac P l i1 i2 = true → ∀ k, i1 ≤ k → k ≤ i2 → P (qsg l k) = true
  | [], _, _, h, _, _, _ => by simpa [qac, qsg] using h
  | (e, ty) :: r, i1, i2, h, k, h1, h2 => by
    unfold qac at h
    unfold qsg
    split at h
    · rw [if_pos (by omega)]; exact h
    · split at h
      · simp only [Bool.and_eq_true] at h
        by_cases h5 : k < e
        · rw [if_pos h5]; exact h.1
        · rw [if_neg h5]; exact q_ac h.2 k h1 h2
      · rw [if_neg (by omega)]; exact q_ac h k h1 h2

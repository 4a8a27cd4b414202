/-! writes into the typed heap -/
section QW
variable {D : qWd} {γ : kΓ} {adr : List Nat} {σ : qσ} {ρ : qρ} {M : qM} {ws : va_W}
/-- does a type take a value -/
def qtk (D : qWd) (N : qN) (M : qM) (a : AV) (t : qTy) : Bool :=
  match t with
  | (0, lo, hi) => (match qiv N a with
    | some p => qle lo p.1 && qle p.2 hi
    | none => false)
  | (1, lo, hi) => (match qivL N a with
    | some p => qle lo p.1 && qle p.2 hi
    | none => false)
  | (2, g, _) => a.1 == 3 && (match qrg D M a.2.1 with
    | some g' => g' == g.toNat
    | none => false)
  | _ => true
theorem q_inR (hD : qD D) (hH : qsM D γ adr σ ρ M ws) {n g a : Nat} (hg : qrg D M n = some g) (ha : ρ n = some a) : qinR D γ adr g a := by
  unfold qrg at hg
  split at hg
  · rename_i hn
    cases hg
    exact .inr ⟨n, hD.2.1 n hn, by rw [← hH.1 n hn]; exact ha⟩
  · rename_i hn
    obtain ⟨b, h1, h2⟩ := hH.2.1 _ _ hg
    rw [show D.2.2 + (n - D.2.2) = n by omega, ha] at h1
    cases h1
    exact h2
theorem q_tk (hD : qD D) {N : qN} (hN : qsN D σ N) (hH : qsM D γ adr σ ρ M ws) {a : AV} {v : Value} (hr : qR σ ρ a v) {t : qTy} (h : qtk D N M a t = true) : qvT D γ adr t v := by
  unfold qtk at h
  split at h
  · split at h
    · rename_i p hp
      simp only [qle, Bool.and_eq_true, decide_eq_true_eq] at h
      obtain ⟨x, e, hx⟩ := q_iv hN hr hp
      exact ⟨fun _ => ⟨x, e, Int.le_trans h.1 hx.1, Int.le_trans hx.2 h.2⟩, fun h => (by cases h), fun h => (by cases h)⟩
    · cases h
  · split at h
    · rename_i p hp
      simp only [qle, Bool.and_eq_true, decide_eq_true_eq] at h
      obtain ⟨x, e, hx⟩ := q_ivL hN hr hp
      exact ⟨fun h => (by cases h), fun _ => ⟨x, e, Int.le_trans h.1 hx.1, Int.le_trans hx.2 h.2⟩, fun h => by cases h⟩
    · cases h
  · simp only [Bool.and_eq_true, beq_iff_eq] at h
    obtain ⟨h1, h2⟩ := h
    split at h2
    · rename_i g' hg
      simp only [beq_iff_eq] at h2
      obtain ⟨n, e, hn⟩ := q_rfv hr h1
      refine ⟨fun h => (by cases h), fun h => (by cases h), fun _ => ⟨n, e, ?_⟩⟩
      have := q_inR hD hH hg hn
      rw [h2] at this
      exact this
    · cases h2
  · rename_i t h0 h1 h2
    refine ⟨fun e => ?_, fun e => ?_, fun e => ?_⟩
    · exact (h0 _ _ (Prod.ext e rfl)).elim
    · exact (h1 _ _ (Prod.ext e rfl)).elim
    · exact (h2 _ _ (Prod.ext e rfl)).elim
/-- what is left of the memory when slots i1 .. i2 of a region are written -/
def qcl (D : qWd) (M : qM) (g i1 i2 : Nat) : qM := (M.1, M.2.1.filter (fun e => !((Nat.ble i1 e.2.1 && Nat.ble e.2.1 i2 || Nat.ble 10000 e.2.1) && (qrg D M e.1 == some g || qrg D M e.1 == some qWR))), M.2.2)
/-- the new cell keeps its form, and all slots but i1 .. i2 -/
def qsame (γ : kΓ) (r : qRT) (c c' : va_E) (i1 i2 : Nat) : Prop := qsh γ r c' ∧ ∀ k, ¬ (i1 ≤ k ∧ k ≤ i2) → qrd c' k = qrd c k
theorem q_wr (hD : qD D) (hH : qsM D γ adr σ ρ M ws) (hdis : ∀ (i j : Nat) (p q : Nat × va_E), ws[i]? = some p → ws[j]? = some q → p.1 = q.1 → i = j) {g q a i1 i2 : Nat} {c c' : va_E} {r : qRT} (hg : D.1[q]? = some g) (hr : D.2.1[g]? = some r) (hc : ws[q]? = some (a, c)) (hs : qsame γ r c c' i1 i2) {ex' : List (Nat × Nat)}
    (hex : ∀ a' k, qexA ρ M.2.2 a' k → ¬ (a' = a ∧ i1 ≤ k ∧ k ≤ i2) → qexA ρ ex' a' k) (hty : ∀ k, k < r.2.1 → i1 ≤ k → k ≤ i2 → qexA ρ ex' a k ∨ ∃ v, qrd c' k = some v ∧ qvT D γ adr (qsg r.2.2 k) v) :
    qsM D γ adr σ ρ ((qcl D M g i1 i2).1, (qcl D M g i1 i2).2.1, ex') (ws.set q (a, c')) := by
  have hq : q < ws.length := (List.getElem?_eq_some_iff.mp hc).1
  refine ⟨hH.1, hH.2.1, hH.2.2.1, fun n k av hm => ?_, ?_, ?_, ?_⟩
  · unfold qcl at hm
    rw [List.mem_filter] at hm
    obtain ⟨q', a', c1, v, ix, g1, g2, g3, g4, g5⟩ := hH.2.2.2.1 n k av hm.1
    have h5 := hm.2
    simp only [Bool.not_eq_true', Bool.and_eq_false_iff] at h5
    by_cases e : q' = q
    · subst e
      rw [hc] at g1
      cases g1
      refine ⟨q', a, c', v, ix, by rw [List.getElem?_set_self hq], g2, ?_, g4, g5⟩
      rw [← g3]
      refine hs.2 ix (fun ⟨k1, k2⟩ => ?_)
      have hrg : qrg D M n = some g ∨ qrg D M n = some qWR := by
        unfold qrg
        by_cases hn : n < D.2.2
        · rw [if_pos hn]
          have h6 := hH.1 n hn
          rw [g2] at h6
          obtain ⟨c2, h7⟩ := q_adr hH h6.symm
          have := hdis n q' _ _ h7 hc rfl
          subst this
          rw [hD.2.1 n hn] at hg
          exact .inl hg
        · rw [if_neg hn]
          by_cases hl : n - D.2.2 < M.1.length
          · have h6 : M.1[n - D.2.2]? = some (M.1[n - D.2.2]) := List.getElem?_eq_getElem hl
            obtain ⟨b, h7, h8⟩ := hH.2.1 _ _ h6
            rw [show D.2.2 + (n - D.2.2) = n by omega, g2] at h7
            cases h7
            rcases h8 with ⟨h9, -⟩ | ⟨q9, h9, h10⟩
            · exact .inr (by rw [h6, h9])
            · obtain ⟨c2, h11⟩ := q_adr hH h10
              have := hdis q9 q' _ _ h11 hc rfl
              subst this
              rw [h9] at hg
              exact .inl (by rw [h6, ← hg])
          · rw [hH.2.2.1 n (by omega)] at g2; cases g2
      rcases h5 with h5 | h5
      · rw [Bool.or_eq_false_iff, Bool.and_eq_false_iff] at h5
        obtain ⟨h5, h6⟩ := h5
        have hix : ix = k := by
          rcases g5 with ⟨-, h7⟩ | ⟨h7, -⟩
          · exact h7
          · rw [Nat.ble_eq_true_of_le h7] at h6; cases h6
        subst hix
        rcases h5 with h5 | h5
        · rw [Nat.ble_eq_true_of_le k1] at h5; cases h5
        · rw [Nat.ble_eq_true_of_le k2] at h5; cases h5
      · rcases hrg with hrg | hrg <;> rw [hrg] at h5 <;> simp at h5
    · exact ⟨q', a', c1, v, ix, by rw [List.getElem?_set_ne (Ne.symm e)]; exact g1, g2, g3, g4, g5⟩
  · rw [← hH.2.2.2.2.1]
    apply List.ext_getElem?
    intro i
    rw [List.getElem?_map, List.getElem?_map]
    by_cases e : q = i
    · subst e; rw [List.getElem?_set_self hq, hc]; rfl
    · rw [List.getElem?_set_ne e]
  · rw [List.length_set]; exact hH.2.2.2.2.2.1
  · intro q' g' a' c1 h1 h2
    by_cases e : q = q'
    · subst e
      rw [List.getElem?_set_self hq] at h2
      cases h2
      rw [hg] at h1
      cases h1
      refine ⟨r, hr, hs.1, fun k hk => ?_⟩
      by_cases hk2 : i1 ≤ k ∧ k ≤ i2
      · exact hty k hk hk2.1 hk2.2
      · obtain ⟨r', h3, h4, h5⟩ := hH.2.2.2.2.2.2 q g a c hg hc
        rw [hr] at h3
        cases h3
        rcases h5 k hk with h6 | h6
        · exact .inl (hex a k h6 (fun z => hk2 z.2))
        · exact .inr (by rw [hs.2 k hk2]; exact h6)
    · rw [List.getElem?_set_ne e] at h2
      obtain ⟨r', h3, h4, h5⟩ := hH.2.2.2.2.2.2 q' g' a' c1 h1 h2
      refine ⟨r', h3, h4, fun k hk => (h5 k hk).imp (fun z => hex a' k z (fun y => ?_)) id⟩
      exact e (hdis q q' _ _ hc h2 y.1.symm)
theorem q_keep {ms : qMods} {w0 : va_W} (hK : qK D ms w0 ws) {g q a i1 i2 : Nat} {c c' : va_E} (hg : D.1[q]? = some g) (hc : ws[q]? = some (a, c)) (hs : ∀ k, ¬ (i1 ≤ k ∧ k ≤ i2) → qrd c' k = qrd c k) (hm : ms.any (fun m => m.1 == g && Nat.ble m.2.1 i1 && Nat.ble i2 m.2.2) = true) : qK D ms w0 (ws.set q (a, c')) := by
  have hq : q < ws.length := (List.getElem?_eq_some_iff.mp hc).1
  intro q' g' a1 c1 a2 c2 h1 h2 h3 k hk
  by_cases e : q = q'
  · subst e
    rw [List.getElem?_set_self hq] at h3
    cases h3
    rw [hg] at h1
    cases h1
    rw [← hK q g a1 c1 a c hg h2 hc k hk]
    refine hs k (fun ⟨k1, k2⟩ => ?_)
    unfold qmod at hk
    rw [List.any_eq_true] at hm
    obtain ⟨m, m1, m2⟩ := hm
    simp only [Bool.and_eq_true, beq_iff_eq, Nat.ble_eq] at m2
    rw [List.any_eq_false] at hk
    have := hk m m1
    simp only [Bool.and_eq_true, beq_iff_eq, Nat.ble_eq] at this
    exact this ⟨⟨m2.1.1, by omega⟩, by omega⟩
  · rw [List.getElem?_set_ne e] at h3
    exact hK q' g' a1 c1 a2 c2 h1 h2 h3 k hk
end QW

/-- mark of the class, with what it leaves -/
theorem cL_01 {w : va_W} {L : Nat → Int32} (h : cL w L) : ∀ k, k < 4 → L k = 0 ∨ L k = 1 := by
  obtain ⟨pm, -, -, h3⟩ := h
  exact h3
theorem mk_classK (γ : kΓ) (l : Launch) {adr : List Nat} {wx : va_W} {x : Nat} {L : Nat → Int32} {th b : Int32} (hb01 : b = 0 ∨ b = 1) (hH : qH cD γ adr (fun _ _ => False) wx) (hax : adr[0]? = some x) (hL : cL wx L) : kM γ l yX11_mark cX11_mark 4 (some .boolean) ({ frames := 20, cells := 0, slots := 0, locals := 400 } : Room) [.ref x, .int th, .int b] wx (fun r w1 => r = some (.int (mkV L th b)) ∧ qH cD γ adr (fun _ _ => False) w1 ∧ qK cD cn_138.2.2.2.2.2 wx w1 ∧ cL w1 (mkLa L th b)) := by
  obtain ⟨y9, hy9, hs9⟩ := cs_138 γ l
  cases hy9
  refine k_imp (k_and (k_wide (f2 := 20) (l2 := 400) (hs9 adr wx [.ref x, .int th, .int b] ⟨hH, trivial, ⟨v_ref rfl hax, v_int _, v_z hb01, trivial⟩, fun f hf => (by cases hf), fun f hf => (by cases hf)⟩) (by decide) (by decide)) (mk_class γ l hb01 hH hax hL) ⟨Nat.le_refl _, Nat.le_refl _, Nat.le_refl _, Nat.le_refl _⟩ (List.range wx.length) (q_nd _) (q_all wx)) (fun r w1 hq => ?_)
  obtain ⟨hq0, H, w2, ⟨q1, q2, q3⟩, k1, k2⟩ := hq
  refine ⟨q1, hq0.1, hq0.2.2.1, ?_⟩
  obtain ⟨pm, g1, g2, g3⟩ := q3
  have hf : w1.map Prod.fst = w2.map Prod.fst := hq0.1.1.trans q2.1.symm
  refine ⟨pm, fun k hk => ⟨(g1 k hk).1, ?_, q_sO (ci := 3) q2 hq0.1 (g1 k hk).1 rfl rfl rfl k1 (fun c hc => k2 _ c hc) (g1 k hk).2.2⟩, g2, g3⟩
  obtain ⟨a, e1, e2⟩ := (g1 k hk).2.1
  obtain ⟨b5, hb5⟩ := q_hasA q2 (q := 5) (g := 5) rfl
  obtain ⟨f5, j5⟩ := q_arrF q2 (q := 5) (g := 5) (t := 4) rfl rfl (.inl rfl) hb5
  have e3 : f5 k = some a := by
    unfold qsl2 at e2
    rw [j5] at e2
    have e2 : (if k < 4 then some (va_rf (f5 k)) else none) = some (.ref a) := e2
    rw [if_pos hk] at e2
    have e2 := Option.some.inj e2
    cases hf5 : f5 k with
    | none => rw [hf5] at e2; cases e2
    | some b => rw [hf5] at e2; cases e2; rfl
  exact ⟨a, by rw [hf]; exact e1, q_eR hq0.1 (q := 5) (g := 5) rfl rfl (.inl rfl) hb5 k1 (k2 _ _ j5) hk e3⟩

/-! the typed world with one row of ints set -/
section QSETI
variable {D : qWd} {γ : kΓ} {adr : List Nat} {ws : va_W} {p g N a : Nat} {tp : Nat} {sg : List (Nat × qTy)} {f f' : Nat → Int32}
theorem q_setI (hH : qH D γ adr (fun _ _ => False) ws) (hg : D.1[p]? = some g) (hr : D.2.1[g]? = some (tp, N, sg)) (he : ws[p]? = some (a, .inl (γ.2.1 tp, N, .inl f))) (hv : ∀ k, k < N → qvT D γ adr (qsg sg k) (.int (f' k))) : qH D γ adr (fun _ _ => False) (ws.set p (a, .inl (γ.2.1 tp, N, .inl f'))) := by
  obtain ⟨h1, h2, h3⟩ := hH
  refine ⟨(fst_set he).trans h1, by rw [List.length_set]; exact h2, fun q g' a' c' hg' hc' => ?_⟩
  rw [List.getElem?_set] at hc'
  by_cases h : p = q
  · subst h
    rw [if_pos rfl, if_pos (List.getElem?_eq_some_iff.mp he).1] at hc'
    cases hc'
    rw [hg] at hg'
    cases hg'
    obtain ⟨r, r1, r2, r3⟩ := h3 p g a _ hg he
    rw [hr] at r1
    cases r1
    refine ⟨_, hr, ⟨rfl, rfl, r2.2.2.1, r2.2.2.2⟩, fun j hj => .inr ⟨.int (f' j), ?_, hv j hj⟩⟩
    show (if j < N then some (Value.int (f' j)) else none) = _
    rw [if_pos hj]
  · rw [if_neg h] at hc'
    exact h3 q g' a' c' hg' hc'
theorem qslI_same (he : ws[p]? = some (a, .inl (γ.2.1 tp, N, .inl f))) {q j : Nat} (h : ¬ q = p) : qsl2 (ws.set p (a, .inl (γ.2.1 tp, N, .inl f'))) q j = qsl2 ws q j := by
  unfold qsl2
  rw [List.getElem?_set, if_neg (fun e => h e.symm)]
theorem qslI_here (he : ws[p]? = some (a, .inl (γ.2.1 tp, N, .inl f))) {j : Nat} (hj : j < N) : qsl2 (ws.set p (a, .inl (γ.2.1 tp, N, .inl f'))) p j = some (.int (f' j)) := by
  unfold qsl2
  rw [List.getElem?_set, if_pos rfl, if_pos (List.getElem?_eq_some_iff.mp he).1]
  show (if j < N then some (Value.int (f' j)) else none) = _
  rw [if_pos hj]
theorem qK_setI {ms : qMods} {w0 : va_W} (hK : qK D ms w0 ws) (hg : D.1[p]? = some g) (he : ws[p]? = some (a, .inl (γ.2.1 tp, N, .inl f))) (hm : ∀ k, k < N → qmod ms g k = true) : qK D ms w0 (ws.set p (a, .inl (γ.2.1 tp, N, .inl f'))) := by
  intro q g' b c b' c' hg' h0 h1 j hj
  rw [List.getElem?_set] at h1
  by_cases hq : p = q
  · subst hq
    rw [if_pos rfl, if_pos (List.getElem?_eq_some_iff.mp he).1] at h1
    cases h1
    rw [hg] at hg'
    cases hg'
    have hjk : ¬ j < N := fun e => by
      rw [hm j e] at hj
      cases hj
    rw [← hK p g b c a _ hg h0 he j hj]
    show (if j < N then some (Value.int (f' j)) else none) = (if j < N then some (Value.int (f j)) else none)
    rw [if_neg hjk, if_neg hjk]
  · rw [if_neg hq] at h1
    exact hK q g' b c b' c' hg' h0 h1 j hj
end QSETI
/-! the guesses of now (0) and of the marks (1 to 4), and which of these are laid -/
def cMp (w : va_W) (pp pg : Nat → Nat) (L gd : Nat → Int32) (ge : Nat → Nat → Int32) : Prop := (∀ j, j < 5 → cD.1[pp j]? = some 37 ∧ cD.1[pg j]? = some 39 ∧ rT w (pp j) 2 (pg j) ∧ qsl2 w (pp j) 4 = some (.int (gd j)) ∧ ∀ i, i < 8 → qsl2 w (pg j) i = some (.int (ge j i))) ∧ rT w 0 2 (pp 0) ∧ (∀ k, k < 4 → rT w 5 k (pp (k + 1)) ∧ qsl2 w (pp (k + 1)) 5 = some (.int (L k)) ∧ (L k = 0 ∨ L k = 1)) ∧ (∀ i j, i < 5 → j < 5 → pp i = pp j → i = j) ∧ ∀ i j, i < 5 → j < 5 → pg i = pg j → i = j
def cM (w : va_W) (L gd : Nat → Int32) (ge : Nat → Nat → Int32) : Prop := ∃ pp pg : Nat → Nat, cMp w pp pg L gd ge
theorem cMp_tr {w w' : va_W} {pp pg : Nat → Nat} {L gd L' gd' : Nat → Int32} {ge ge' : Nat → Nat → Int32} (hf : w'.map Prod.fst = w.map Prod.fst) (h02 : qsl2 w' 0 2 = qsl2 w 0 2) (h5 : ∀ k, qsl2 w' 5 k = qsl2 w 5 k) (h2 : ∀ q, cD.1[q]? = some 37 → qsl2 w' q 2 = qsl2 w q 2) (h4 : ∀ j, j < 5 → qsl2 w' (pp j) 4 = some (.int (gd' j))) (he : ∀ j, j < 5 → ∀ i, i < 8 → qsl2 w' (pg j) i = some (.int (ge' j i))) (hl : ∀ k, k < 4 → qsl2 w' (pp (k + 1)) 5 = some (.int (L' k)) ∧ (L' k = 0 ∨ L' k = 1)) (h : cMp w pp pg L gd ge) : cMp w' pp pg L' gd' ge' := by
  obtain ⟨a1, a2, a3, a4, a5⟩ := h
  exact ⟨fun j hj => ⟨(a1 j hj).1, (a1 j hj).2.1, rT_tr hf (h2 _ (a1 j hj).1) (a1 j hj).2.2.1, h4 j hj, he j hj⟩, rT_tr hf h02 a2, fun k hk => ⟨rT_tr hf (h5 k) (a3 k hk).1, hl k hk⟩, a4, a5⟩
def cMfree (ms : qMods) : Bool := ms.all (fun m => !(m.1 == 5)) && ms.all (fun m => !(m.1 == 39)) && !(qmod ms 0 2) && !(qmod ms 37 2) && !(qmod ms 37 4) && !(qmod ms 37 5)
theorem cMp_keep {γ : kΓ} {adr : List Nat} {ms : qMods} {ws w1 : va_W} {pp pg : Nat → Nat} {L gd : Nat → Int32} {ge : Nat → Nat → Int32} (h0 : qH cD γ adr (fun _ _ => False) ws) (h1 : qH cD γ adr (fun _ _ => False) w1) (hK : qK cD ms ws w1) (hm : cMfree ms = true) (h : cMp ws pp pg L gd ge) : cMp w1 pp pg L gd ge := by
  unfold cMfree at hm
  rw [Bool.and_eq_true, Bool.and_eq_true, Bool.and_eq_true, Bool.and_eq_true, Bool.and_eq_true, Bool.not_eq_true', Bool.not_eq_true', Bool.not_eq_true', Bool.not_eq_true'] at hm
  obtain ⟨⟨⟨⟨⟨m1, m2⟩, m3⟩, m4⟩, m5⟩, m6⟩ := hm
  refine cMp_tr (h1.1.trans h0.1.symm) (q_kp2 h0 h1 hK (q := 0) (g := 0) rfl m3) (fun k => q_kp2 h0 h1 hK (q := 5) (g := 5) rfl (qm_none m1 k)) (fun q hq => q_kp2 h0 h1 hK hq m4) (fun j hj => ?_) (fun j hj i hi => ?_) (fun k hk => ⟨?_, (h.2.2.1 k hk).2.2⟩) h
  · exact (q_kp2 h0 h1 hK (h.1 j hj).1 m5).trans (h.1 j hj).2.2.2.1
  · exact (q_kp2 h0 h1 hK (h.1 j hj).2.1 (qm_none m2 i)).trans ((h.1 j hj).2.2.2.2 i hi)
  · exact (q_kp2 h0 h1 hK (h.1 (k + 1) (by omega)).1 m6).trans (h.2.2.1 k hk).2.1
theorem cM_keep {γ : kΓ} {adr : List Nat} {ms : qMods} {ws w1 : va_W} {L gd : Nat → Int32} {ge : Nat → Nat → Int32} (h0 : qH cD γ adr (fun _ _ => False) ws) (h1 : qH cD γ adr (fun _ _ => False) w1) (hK : qK cD ms ws w1) (hm : cMfree ms = true) (h : cM ws L gd ge) : cM w1 L gd ge := by
  obtain ⟨pp, pg, h⟩ := h
  exact ⟨pp, pg, cMp_keep h0 h1 hK hm h⟩
/-- a page as it lies there -/
theorem c_page {γ : kΓ} {adr : List Nat} {w : va_W} {p gp : Nat} (hH : qH cD γ adr (fun _ _ => False) w) (hp : cD.1[p]? = some 37) (hg : cD.1[gp]? = some 39) (hr : rT w p 2 gp) : ∃ (ap st yr ag yp : Nat) (li gu la : Int32) (fy fg : Nat → Int32), adr[p]? = some ap ∧ w[p]? = some (ap, .inr (3, [.ref st, .ref yr, .ref ag, .int li, .int gu, .int la])) ∧ qvT cD γ adr (2, 37, 0) (.ref ap) ∧ qvT cD γ adr (2, 30, 0) (.ref st) ∧ cD.1[yp]? = some 38 ∧ w[yp]? = some (yr, .inl (γ.2.1 0, 40, .inl fy)) ∧ w[gp]? = some (ag, .inl (γ.2.1 0, 8, .inl fg)) ∧ qvT cD γ adr (0, 0, 40) (.int li) ∧ qvT cD γ adr (0, 0, 8) (.int gu) := by
  obtain ⟨ap, hap⟩ := q_hasA hH hp
  obtain ⟨fs, e1, e2, e3⟩ := q_objAt hH (q := p) (g := 37) (ci := 3) hp rfl hap
  obtain ⟨v, u0, b0⟩ := e3 0 (by decide)
  have b0' : qvT cD γ adr (2, 30, 0) v := b0
  obtain ⟨st, rfl⟩ := q_any (g := 30) b0'
  obtain ⟨v, u1, b9⟩ := e3 1 (by decide)
  obtain ⟨yp, yr, rfl, hyp, hyr⟩ := q_refp (g := 38) (by decide) b9
  obtain ⟨v, u2, b9⟩ := e3 2 (by decide)
  obtain ⟨ag, rfl⟩ := q_any (g := 39) b9
  obtain ⟨v, u3, b3⟩ := e3 3 (by decide)
  have b3' : qvT cD γ adr (0, 0, 40) v := b3
  obtain ⟨li, rfl, -⟩ := b3.1 rfl
  obtain ⟨v, u4, b4⟩ := e3 4 (by decide)
  have b4' : qvT cD γ adr (0, 0, 8) v := b4
  obtain ⟨gu, rfl, -⟩ := b4.1 rfl
  obtain ⟨v, u5, b9⟩ := e3 5 (by decide)
  obtain ⟨la, rfl, -⟩ := b9.1 rfl
  have e9 : fs = [.ref st, .ref yr, .ref ag, .int li, .int gu, .int la] := by
    apply List.ext_getElem?
    intro k
    by_cases hk : k < 6
    · have : k = 0 ∨ k = 1 ∨ k = 2 ∨ k = 3 ∨ k = 4 ∨ k = 5 := by omega
      rcases this with rfl | rfl | rfl | rfl | rfl | rfl
      · exact u0
      · exact u1
      · exact u2
      · exact u3
      · exact u4
      · exact u5
    · rw [List.getElem?_eq_none (by omega), List.getElem?_eq_none (by show 6 ≤ k; omega)]
  subst e9
  obtain ⟨fy, e4, -⟩ := q_arrAt hH (q := yp) (g := 38) (tp := 0) hyp rfl (.inl rfl) hyr
  have hag : adr[gp]? = some ag := by
    obtain ⟨a, h1, h2⟩ := hr
    unfold qsl2 at h2
    rw [e1] at h2
    have h2 : some (Value.ref ag) = some (.ref a) := h2
    cases h2
    rw [← hH.1]
    exact h1
  obtain ⟨fg, e5, -⟩ := q_arrAt hH (q := gp) (g := 39) (tp := 0) hg rfl (.inl rfl) hag
  exact ⟨ap, st, yr, ag, yp, li, gu, la, fy, fg, hap, e1, ⟨fun h => (by cases h), fun h => (by cases h), fun _ => ⟨ap, rfl, .inr ⟨p, hp, hap⟩⟩⟩, b0', hyp, e4, e5, b3', b4'⟩
theorem v_any {D : qWd} {γ : kΓ} {adr : List Nat} (x : Int32) : qvT D γ adr (0, -2147483648, 2147483647) (.int x) := v_int x
theorem v_seg {D : qWd} {γ : kΓ} {adr : List Nat} {N k : Nat} {x : Int32} (hk : k < N) : qvT D γ adr (qsg [(N, 0, -2147483648, 2147483647)] k) (.int x) := by
  show qvT D γ adr (if k < N then (0, -2147483648, 2147483647) else (9, 0, 0)) (.int x)
  rw [if_pos hk]
  exact v_int x
theorem v_in {D : qWd} {γ : kΓ} {adr : List Nat} {lo hi : Int} {x : Int32} (h1 : lo ≤ x.toInt) (h2 : x.toInt ≤ hi) : qvT D γ adr (0, lo, hi) (.int x) := ⟨fun _ => ⟨x, rfl, ⟨h1, h2⟩⟩, fun h => (by cases h), fun h => (by cases h)⟩
theorem set_reg {w : va_W} {i j gi gj : Nat} {c : Nat × va_E} (hi : cD.1[i]? = some gi) (hj : cD.1[j]? = some gj) (h : gi ≠ gj) : (w.set i c)[j]? = w[j]? := by
  rw [List.getElem?_set, if_neg (fun e => g_ne e hi hj h)]
theorem set_at {w : va_W} {i a : Nat} {c d : va_E} (he : w[i]? = some (a, c)) : (w.set i (a, d))[i]? = some (a, d) := by
  rw [List.getElem?_set, if_pos rfl, if_pos (List.getElem?_eq_some_iff.mp he).1]
theorem cpy8 {f g : Nat → Int32} {i : Nat} (hi : i < 8) : va_cpy f g (0 : Int32).toNatClampNeg (0 : Int32).toNatClampNeg (8 : Int32).toNatClampNeg i = f i := by
  show (if 0 ≤ i ∧ i < 0 + 8 then f (0 + (i - 0)) else g i) = f i
  rw [if_pos (by omega), show 0 + (i - 0) = i by omega]
/-- a mark is laid or gone back to: what is where then -/
def mkD {α : Type} (L : Nat → Int32) (th b : Int32) (f : Nat → α) : Nat → α := if 0 ≤ th.toInt ∧ th.toInt < 4 then (if b = 0 then (fun j => if j = th.toNatClampNeg + 1 then f 0 else f j) else if L th.toNatClampNeg = 0 then f else (fun j => if j = 0 then f (th.toNatClampNeg + 1) else f j)) else f
theorem mkD_lo {α : Type} {L : Nat → Int32} {th b : Int32} {f : Nat → α} (h : th < 0 ∨ ¬ th < 4) : mkD L th b f = f := by
  rw [Int32.lt_iff_toInt_lt, Int32.lt_iff_toInt_lt, show (0 : Int32).toInt = 0 from by decide, show (4 : Int32).toInt = 4 from by decide] at h
  exact if_neg (by omega)
theorem mkD_in {α : Type} {L : Nat → Int32} {k : Nat} {b : Int32} {f : Nat → α} (hk : k < 4) : mkD L (nI k) b f = (if b = 0 then (fun j => if j = k + 1 then f 0 else f j) else if L k = 0 then f else (fun j => if j = 0 then f (k + 1) else f j)) := by
  unfold mkD
  rw [nI_toInt (by omega), nI_clamp (by omega), if_pos (by omega)]
/-- the guesses of both sides: of now, and of each mark that is laid -/
def gR (L gd : Nat → Int32) (ge : Nat → Nat → Int32) (gs : Nat → Int32) (ob mb : Nat → Nat → Int32) : Prop := ∀ j, j < 5 → (j = 0 ∨ L (j - 1) = 1) → ∃ G, G ≤ 8 ∧ gd j = nI G ∧ gs j = nI G ∧ ∀ i, i < G → (∃ t, t < 8 ∧ ob j i = nI t ∧ ge j i = nI t * 2 + mb j i) ∧ (mb j i = 0 ∨ mb j i = 1)
theorem gR_mark {L gd : Nat → Int32} {ge : Nat → Nat → Int32} {gs : Nat → Int32} {ob mb mb' : Nat → Nat → Int32} {th b : Int32} (h01 : ∀ k, k < 4 → L k = 0 ∨ L k = 1) (hb : b = 0 ∨ b = 1) (h : gR L gd ge gs ob mb) (hm : ∀ j i, j < 5 → i < 8 → (mkD L th b mb j i = 0 ∨ mkD L th b mb j i = 1) → mb' j i = mkD L th b mb j i) : gR (mkLa L th b) (mkD L th b gd) (mkD L th b ge) (mkD L th b gs) (mkD L th b ob) mb' := by
  have key : ∀ j, j < 5 → (j = 0 ∨ (mkLa L th b) (j - 1) = 1) → ∃ q, q < 5 ∧ (q = 0 ∨ L (q - 1) = 1) ∧ mkD L th b gd j = gd q ∧ mkD L th b ge j = ge q ∧ mkD L th b gs j = gs q ∧ mkD L th b ob j = ob q ∧ mkD L th b mb j = mb q := by
    intro j hj hl
    rcases mk_cases th with h9 | ⟨k, hk, rfl⟩
    · rw [(mk_lo h9).2] at hl
      rw [mkD_lo h9, mkD_lo h9, mkD_lo h9, mkD_lo h9, mkD_lo h9]
      exact ⟨j, hj, hl, rfl, rfl, rfl, rfl, rfl⟩
    · rw [(mk_in hk).2] at hl
      rw [mkD_in hk, mkD_in hk, mkD_in hk, mkD_in hk, mkD_in hk]
      rcases hb with rfl | rfl
      · rw [if_pos rfl] at hl
        rw [if_pos rfl, if_pos rfl, if_pos rfl, if_pos rfl, if_pos rfl]
        by_cases e : j = k + 1
        · refine ⟨0, by decide, .inl rfl, ?_⟩
          simp only [if_pos e, and_self]
        · refine ⟨j, hj, ?_, ?_⟩
          · rcases hl with hl | hl
            · exact .inl hl
            · by_cases e0 : j = 0
              · exact .inl e0
              · refine .inr ?_
                unfold upd at hl
                rw [if_neg (by omega)] at hl
                exact hl
          · simp only [if_neg e, and_self]
      · rw [if_neg (by decide)] at hl
        by_cases hz : L k = 0
        · refine ⟨j, hj, hl, ?_⟩
          simp only [if_neg (show ¬ (1 : Int32) = 0 by decide), if_pos hz, and_self]
        · by_cases e : j = 0
          · refine ⟨k + 1, by omega, ?_, ?_⟩
            · exact .inr ((h01 k hk).resolve_left hz)
            · simp only [if_neg (show ¬ (1 : Int32) = 0 by decide), if_neg hz, if_pos e, and_self]
          · refine ⟨j, hj, hl, ?_⟩
            simp only [if_neg (show ¬ (1 : Int32) = 0 by decide), if_neg hz, if_neg e, and_self]
  intro j hj hl
  obtain ⟨q, q1, q2, e1, e2, e3, e4, e5⟩ := key j hj hl
  obtain ⟨G, g1, g2, g3, g4⟩ := h q q1 q2
  refine ⟨G, g1, by rw [e1]; exact g2, by rw [e3]; exact g3, fun i hi => ?_⟩
  obtain ⟨⟨t, t1, t2, t3⟩, t4⟩ := g4 i hi
  have hmm : mb' j i = mb q i := by
    have h9 := hm j i hj (by omega) (by rw [e5]; exact t4)
    rw [h9, e5]
  rw [e4, e2, hmm]
  exact ⟨⟨t, t1, t2, t3⟩, t4⟩
theorem cMp_laid {w : va_W} {pp pg : Nat → Nat} {L gd : Nat → Int32} {ge : Nat → Nat → Int32} {k a : Nat} {fs : List Value} {v : Int32} (hk : k < 4) (h : cMp w pp pg L gd ge) (he : w[pp (k + 1)]? = some (a, .inr (3, fs))) (hl : 5 < fs.length) (hv : v = 0 ∨ v = 1) : cMp (w.set (pp (k + 1)) (a, .inr (3, fs.set 5 (.int v)))) pp pg (upd L k v) gd ge := by
  have hp := (h.1 (k + 1) (by omega)).1
  refine cMp_tr (fst_set he) (qsl_same he (fun e => absurd e.2 (by decide))) (fun j => qsl_same he (fun e => g_ne e.1 (show cD.1[5]? = some 5 from rfl) hp (by decide))) (fun q _ => qsl_same he (fun e => absurd e.2 (by decide))) (fun j hj => (qsl_same he (fun e => absurd e.2 (by decide))).trans (h.1 j hj).2.2.2.1) (fun j hj i hi => (qsl_same he (fun e => g_ne e.1 (h.1 j hj).2.1 hp (by decide))).trans ((h.1 j hj).2.2.2.2 i hi)) (fun j hj => ?_) h
  unfold upd
  by_cases hjk : j = k
  · subst hjk
    rw [if_pos rfl]
    exact ⟨qsl_here he hl, hv⟩
  · rw [if_neg hjk, qsl_same he (fun e => hjk (by have := h.2.2.2.1 (j + 1) (k + 1) (by omega) (by omega) e.1; omega))]
    exact (h.2.2.1 j hj).2
theorem cM_01 {w : va_W} {L gd : Nat → Int32} {ge : Nat → Nat → Int32} (h : cM w L gd ge) : ∀ k, k < 4 → L k = 0 ∨ L k = 1 := by
  obtain ⟨pp, pg, h⟩ := h
  exact fun k hk => (h.2.2.1 k hk).2.2
theorem cMp_eq {w : va_W} {pp pg : Nat → Nat} {L gd L' gd' : Nat → Int32} {ge ge' : Nat → Nat → Int32} (h1 : ∀ k, k < 4 → L k = L' k) (h2 : ∀ j, j < 5 → gd j = gd' j) (h3 : ∀ j, j < 5 → ∀ i, i < 8 → ge j i = ge' j i) (h : cMp w pp pg L gd ge) : cMp w pp pg L' gd' ge' :=
  ⟨fun j hj => ⟨(h.1 j hj).1, (h.1 j hj).2.1, (h.1 j hj).2.2.1, by rw [← h2 j hj]; exact (h.1 j hj).2.2.2.1, fun i hi => by rw [← h3 j hj i hi]; exact (h.1 j hj).2.2.2.2 i hi⟩, h.2.1, fun k hk => ⟨(h.2.2.1 k hk).1, by rw [← h1 k hk]; exact (h.2.2.1 k hk).2⟩, h.2.2.2⟩
/-- the model's rows of guesses -/
def mG (w : va_W) (gs : Nat → Int32) (ob mb : Nat → Nat → Int32) : Prop := ∀ j, j < 5 → qsl2 w 28 j = some (.int (gs j)) ∧ ∀ i, i < 8 → qsl2 w 29 (8 * j + i) = some (.int (ob j i)) ∧ qsl2 w 30 (8 * j + i) = some (.int (mb j i))
def mGfree (ms : qMods) : Bool := (List.range 5).all (fun k => !(qmod ms 28 k)) && (List.range 40).all (fun k => !(qmod ms 29 k)) && (List.range 40).all (fun k => !(qmod ms 30 k))
theorem qm_rg {ms : qMods} {g n : Nat} (h : (List.range n).all (fun k => !(qmod ms g k)) = true) (k : Nat) (hk : k < n) : qmod ms g k = false := by
  have h8 := List.all_eq_true.mp h k (List.mem_range.mpr hk)
  rw [Bool.not_eq_true'] at h8
  exact h8
theorem mG_keep {γ : kΓ} {adr : List Nat} {ms : qMods} {ws w1 : va_W} {gs : Nat → Int32} {ob mb : Nat → Nat → Int32} (h0 : qH mD γ adr (fun _ _ => False) ws) (h1 : qH mD γ adr (fun _ _ => False) w1) (hK : qK mD ms ws w1) (hm : mGfree ms = true) (h : mG ws gs ob mb) : mG w1 gs ob mb := by
  unfold mGfree at hm
  rw [Bool.and_eq_true, Bool.and_eq_true] at hm
  exact fun j hj => ⟨(q_kp2 h0 h1 hK (q := 28) (g := 28) rfl (qm_rg hm.1.1 j hj)).trans (h j hj).1, fun i hi => ⟨(q_kp2 h0 h1 hK (q := 29) (g := 29) rfl (qm_rg hm.1.2 _ (by omega))).trans ((h j hj).2 i hi).1, (q_kp2 h0 h1 hK (q := 30) (g := 30) rfl (qm_rg hm.2 _ (by omega))).trans ((h j hj).2 i hi).2⟩⟩
/-- an abbey empties the guesses of now -/
theorem mG_zero {γ : kΓ} {adr : List Nat} {ms : qMods} {ws w1 : va_W} {gs : Nat → Int32} {ob mb : Nat → Nat → Int32} (h0 : qH mD γ adr (fun _ _ => False) ws) (h1 : qH mD γ adr (fun _ _ => False) w1) (hK : qK mD ms ws w1) (hm1 : (List.range 4).all (fun k => !(qmod ms 28 (k + 1))) = true) (hm2 : (List.range 40).all (fun k => !(qmod ms 29 k)) = true) (hm3 : (List.range 40).all (fun k => !(qmod ms 30 k)) = true) (hz : qsl2 w1 28 0 = some (.int 0)) (h : mG ws gs ob mb) : mG w1 (upd gs 0 0) ob mb := by
  intro j hj
  refine ⟨?_, fun i hi => ⟨(q_kp2 h0 h1 hK (q := 29) (g := 29) rfl (qm_rg hm2 _ (by omega))).trans ((h j hj).2 i hi).1, (q_kp2 h0 h1 hK (q := 30) (g := 30) rfl (qm_rg hm3 _ (by omega))).trans ((h j hj).2 i hi).2⟩⟩
  unfold upd
  by_cases e : j = 0
  · subst e; rw [if_pos rfl]; exact hz
  · rw [if_neg e]
    obtain ⟨k, rfl⟩ : ∃ k, j = k + 1 := ⟨j - 1, by omega⟩
    have h8 := List.all_eq_true.mp hm1 k (List.mem_range.mpr (by omega))
    rw [Bool.not_eq_true'] at h8
    exact (q_kp2 h0 h1 hK (q := 28) (g := 28) rfl h8).trans (h (k + 1) hj).1
theorem gR_zero {L gd : Nat → Int32} {ge : Nat → Nat → Int32} {gs : Nat → Int32} {ob mb : Nat → Nat → Int32} : gR (fun _ => 0) (upd gd 0 0) ge (upd gs 0 0) ob mb := by
  intro j hj hl
  rcases hl with rfl | hl
  · exact ⟨0, by decide, rfl, rfl, fun i hi => absurd hi (Nat.not_lt_zero i)⟩
  · exact absurd (show (0 : Int32) = 1 from hl) (by decide)
def lG (wx wm : va_W) : Prop := ∃ (L gd : Nat → Int32) (ge : Nat → Nat → Int32) (gs : Nat → Int32) (ob mb : Nat → Nat → Int32), cM wx L gd ge ∧ mL wm L ∧ mG wm gs ob mb ∧ gR L gd ge gs ob mb
theorem nar01 {x : Int32} (h : x = 0 ∨ x = 1) : vp_nar .boolean x = x := by
  rcases h with rfl | rfl <;> rfl
/-- guess: what it answers, what is where behind it -/
def gsV (T G : Nat) (th : Int32) : Int32 := if 0 ≤ th.toInt ∧ th.toInt < T ∧ G < 8 then 1 else 0
theorem gsV_no {T G : Nat} {th : Int32} (h : ¬ (0 ≤ th.toInt ∧ th.toInt < T ∧ G < 8)) : gsV T G th = 0 := if_neg h
theorem gsV_yes {T G : Nat} {th : Int32} (h : 0 ≤ th.toInt ∧ th.toInt < T ∧ G < 8) : gsV T G th = 1 := if_pos h
def gzA {α : Type} (T G : Nat) (th : Int32) (a b : α) : α := if 0 ≤ th.toInt ∧ th.toInt < T ∧ G < 8 then a else b
theorem gzA_no {α : Type} {T G : Nat} {th : Int32} {a b : α} (h : ¬ (0 ≤ th.toInt ∧ th.toInt < T ∧ G < 8)) : gzA T G th a b = b := if_neg h
theorem gzA_yes {α : Type} {T G : Nat} {th : Int32} {a b : α} (h : 0 ≤ th.toInt ∧ th.toInt < T ∧ G < 8) : gzA T G th a b = a := if_pos h
theorem gs_lo {T G : Nat} {th : Int32} (h : th < 0) : ¬ (0 ≤ th.toInt ∧ th.toInt < T ∧ G < 8) := by
  rw [Int32.lt_iff_toInt_lt, show (0 : Int32).toInt = 0 from by decide] at h
  omega
theorem gs_hi {T G : Nat} {th : Int32} (hT : T ≤ 8) (h : nI T ≤ th) : ¬ (0 ≤ th.toInt ∧ th.toInt < T ∧ G < 8) := by
  rw [Int32.le_iff_toInt_le, nI_toInt (by omega)] at h
  omega
theorem gs_in {T G t : Nat} (hT : T ≤ 8) (ht : t < T) (hG : G < 8) : 0 ≤ (nI t).toInt ∧ (nI t).toInt < T ∧ G < 8 := by
  rw [nI_toInt (by omega)]
  omega
theorem nI_lt8 {G : Nat} (h : G < 8) : nI G < 8 := by
  rw [Int32.lt_iff_toInt_lt, nI_toInt (by omega), show (8 : Int32).toInt = 8 from by decide]
  omega
theorem nI_ne8 {G : Nat} (h : G < 8) : ¬ nI G = 8 := fun e => by
  have h9 := congrArg Int32.toInt e
  rw [nI_toInt (by omega), show (8 : Int32).toInt = 8 from by decide] at h9
  omega
/-- one more guess -/
theorem gR_guess {L gd : Nat → Int32} {ge : Nat → Nat → Int32} {gs : Nat → Int32} {ob mb : Nat → Nat → Int32} {T G : Nat} {th b : Int32} (hT : T ≤ 8) (hb : b = 0 ∨ b = 1) (hG : G ≤ 8) (hd : gd 0 = nI G) (h : gR L gd ge gs ob mb) : gR L (gzA T G th (upd gd 0 (nI (G + 1))) gd) (gzA T G th (fun j => if j = 0 then upd (ge 0) G (th * 2 + b) else ge j) ge) (gzA T G th (upd gs 0 (nI (G + 1))) gs) (gzA T G th (fun j => if j = 0 then upd (ob 0) G th else ob j) ob) (gzA T G th (fun j => if j = 0 then upd (mb 0) G b else mb j) mb) := by
  by_cases hc : 0 ≤ th.toInt ∧ th.toInt < T ∧ G < 8
  · rw [gzA_yes hc, gzA_yes hc, gzA_yes hc, gzA_yes hc, gzA_yes hc]
    intro j hj hl
    by_cases e : j = 0
    · subst e
      obtain ⟨G', g1, g2, g3, g4⟩ := h 0 (by decide) (.inl rfl)
      have eG : G' = G := n_inj (by omega) (by omega) (g2.symm.trans hd)
      subst eG
      refine ⟨G' + 1, by omega, rfl, rfl, fun i hi => ?_⟩
      show (∃ t, t < 8 ∧ upd (ob 0) G' th i = nI t ∧ upd (ge 0) G' (th * 2 + b) i = nI t * 2 + upd (mb 0) G' b i) ∧ (upd (mb 0) G' b i = 0 ∨ upd (mb 0) G' b i = 1)
      unfold upd
      by_cases ei : i = G'
      · rw [if_pos ei, if_pos ei, if_pos ei]
        refine ⟨⟨th.toInt.toNat, by omega, ?_, ?_⟩, hb⟩
        · apply Int32.toInt_inj.mp
          rw [nI_toInt (by omega)]
          omega
        · rw [show th = nI th.toInt.toNat from Int32.toInt_inj.mp (by rw [nI_toInt (by omega)]; omega), nI_toInt (by omega)]
          rfl
      · rw [if_neg ei, if_neg ei, if_neg ei]
        exact g4 i (by omega)
    · obtain ⟨G', g1, g2, g3, g4⟩ := h j hj hl
      refine ⟨G', g1, ?_, ?_, fun i hi => ?_⟩
      · unfold upd; rw [if_neg e]; exact g2
      · unfold upd; rw [if_neg e]; exact g3
      · simp only [if_neg e]
        exact g4 i hi
  · rw [gzA_no hc, gzA_no hc, gzA_no hc, gzA_no hc, gzA_no hc]
    exact h

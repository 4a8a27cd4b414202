set_option maxHeartbeats 4000000 in
set_option maxRecDepth 100000 in
theorem ra_class2 (γ : kΓ) (l : Launch) {f : Nat → Int32} {n : Nat} (hn : n ≤ 1000) (hok : ∀ k, k < n → kok (f k) = true) {adr : List Nat} {ws : va_W} {rr ab : Nat} {pt t0 t3 t4 pd d0 d3 d4 : Nat} {S : tS} (p1 : qH cD γ adr (fun _ _ => False) ws) (p2 : XT f n ws) (hA : cHalf ws pt t0 t3 t4) (hB : cHalf ws pd d0 d3 d4) (hne : pt ≠ pd ∧ t0 ≠ d0 ∧ t3 ≠ d3 ∧ t4 ≠ d4) (hCt : cCt ws pt t0 t3 t4 S) (hrr : adr[19]? = some rr) (hab : adr[pd]? = some ab) :
    kM γ l yX5_readAbbey cX5_readAbbey 4 (some .int) ({ frames := 41, cells := 0, slots := 0, locals := 1000 } : Room) [.ref rr, .ref ab] ws (fun r w1 => r = some (.int (fvA f n)) ∧ qH cD γ adr (fun _ _ => False) w1 ∧ qK cD cn_100.2.2.2.2.2 ws w1 ∧ qsl2 w1 1 1 = some (.int 0) ∧ cCt w1 pt t0 t3 t4 S ∧ (fvA f n = 0 → ∃ (a0 : aAS) (f0 : Nat → Int32) (t5 : Int32) (t6 : Int64), (∀ k, k < n → f0 k = f k) ∧ cCt w1 pd d0 d3 d4 (tSof (F_readAbbey f0 n a0 t5 t6).2.2))) := by
  obtain ⟨y9, hy9, hs9⟩ := cs_100 γ l
  cases hy9
  have hv0 : qvT cD γ adr (2, 19, 0) (.ref rr) := ⟨fun h => (by cases h), fun h => (by cases h), fun _ => ⟨rr, rfl, .inr ⟨19, rfl, hrr⟩⟩⟩
  have hv1 : qvT cD γ adr (2, 21, 0) (.ref ab) := ⟨fun h => (by cases h), fun h => (by cases h), fun _ => ⟨ab, rfl, .inr ⟨pd, hB.1, hab⟩⟩⟩
  have hpd := hB.1
  obtain ⟨fr, r1, r2, r3⟩ := q_objAt p1 (q := 19) (g := 19) (ci := 5) rfl rfl hrr
  obtain ⟨v, u0, b0⟩ := r3 0 (by decide)
  obtain ⟨h, rfl, hh⟩ := q_sg2 cDok (g := 1) (by decide) b0
  obtain ⟨v, u1, b1⟩ := r3 1 (by decide)
  obtain ⟨rl, rfl⟩ := q_any (g := 20) b1
  obtain ⟨v, u2, b2⟩ := r3 2 (by decide)
  obtain ⟨ab9, rfl⟩ := q_any (g := 21) b2
  obtain ⟨v, u3, b3⟩ := r3 3 (by decide)
  obtain ⟨mn, rfl, -⟩ := b3.1 rfl
  obtain ⟨v, u4, b4⟩ := r3 4 (by decide)
  obtain ⟨fa, rfl, -⟩ := b4.1 rfl
  have e9 : fr = [.ref h, .ref rl, .ref ab9, .int mn, .int fa] := by
    apply List.ext_getElem?
    intro k
    by_cases hk : k < 5
    · have : k = 0 ∨ k = 1 ∨ k = 2 ∨ k = 3 ∨ k = 4 := by omega
      rcases this with rfl | rfl | rfl | rfl | rfl
      · exact u0
      · exact u1
      · exact u2
      · exact u3
      · exact u4
    · rw [List.getElem?_eq_none (by omega), List.getElem?_eq_none (by show 5 ≤ k; omega)]
  subst e9
  clear u0 u1 u2 u3 u4 b0 b1 b2 b3 b4 r2 r3
  obtain ⟨fs, k1, k2, k3⟩ := q_objAt p1 (q := 1) (g := 1) (ci := 8) rfl rfl hh
  obtain ⟨hg, t7, n0, t2, tb, t4, t5, t6, hn0, hxg, rfl⟩ := c_tok k2 k3
  have en : n0 = n := by
    have h9 := p2.1
    unfold qsl2 at h9
    rw [k1] at h9
    exact n_inj hn0 hn (Value.int.inj (Option.some.inj h9))
  subst en
  obtain ⟨f0, s1, s2⟩ := q_arrAt p1 (q := 2) (g := 2) (tp := 2) rfl rfl (.inr (.inl rfl)) hxg
  have hf0 : ∀ k, k < n0 → f0 k = f k := fun k hk => by
    have h9 := p2.2 k hk
    unfold qsl2 at h9
    rw [s1] at h9
    have h9 : (if k < 1000 then some (Value.int (f0 k)) else none) = some (Value.int (f k)) := h9
    rw [if_pos (by omega)] at h9
    exact Value.int.inj (Option.some.inj h9)
  obtain ⟨fd, m1, m2, m3⟩ := q_objAt p1 (q := pd) (g := 21) (ci := 0) hpd rfl hab
  obtain ⟨a0, e90, s90⟩ := hB.2.2.2.2.1
  have u0 : fd[0]? = some (.ref a0) := by
    unfold qsl2 at s90
    rw [m1] at s90
    exact s90
  have hp0 := hB.2.1
  have ha0 : adr[d0]? = some a0 := by rw [← p1.1]; exact e90
  obtain ⟨v, u1, b9⟩ := m3 1 (by decide)
  obtain ⟨p1q, a1, rfl, hp1, ha1⟩ := q_refp (g := 23) (by decide) b9
  obtain ⟨v, u2, b9⟩ := m3 2 (by decide)
  obtain ⟨p2q, a2, rfl, hp2, ha2⟩ := q_refp (g := 24) (by decide) b9
  obtain ⟨a3, e93, s93⟩ := hB.2.2.2.2.2.1
  have u3 : fd[3]? = some (.ref a3) := by
    unfold qsl2 at s93
    rw [m1] at s93
    exact s93
  have hp3 := hB.2.2.1
  have ha3 : adr[d3]? = some a3 := by rw [← p1.1]; exact e93
  obtain ⟨a4, e94, s94⟩ := hB.2.2.2.2.2.2
  have u4 : fd[4]? = some (.ref a4) := by
    unfold qsl2 at s94
    rw [m1] at s94
    exact s94
  have hp4 := hB.2.2.2.1
  have ha4 : adr[d4]? = some a4 := by rw [← p1.1]; exact e94
  obtain ⟨v, u5, b9⟩ := m3 5 (by decide)
  obtain ⟨p5q, a5, rfl, hp5, ha5⟩ := q_refp (g := 27) (by decide) b9
  obtain ⟨v, u6, b9⟩ := m3 6 (by decide)
  obtain ⟨p6q, a6, rfl, hp6, ha6⟩ := q_refp (g := 28) (by decide) b9
  obtain ⟨v, u7, b9⟩ := m3 7 (by decide)
  obtain ⟨p7q, a7, rfl, hp7, ha7⟩ := q_refp (g := 29) (by decide) b9
  obtain ⟨v, u8, b9⟩ := m3 8 (by decide)
  obtain ⟨w9, rfl, c9⟩ := b9.1 rfl
  obtain ⟨T, hT, rfl⟩ := n_ofk (k := 8) c9 (by decide)
  obtain ⟨v, u9, b9⟩ := m3 9 (by decide)
  obtain ⟨w9, rfl, c9⟩ := b9.1 rfl
  obtain ⟨Q, hQ, rfl⟩ := n_ofk (k := 5) c9 (by decide)
  obtain ⟨v, u10, b9⟩ := m3 10 (by decide)
  obtain ⟨ti, rfl, -⟩ := b9.1 rfl
  obtain ⟨v, u11, b9⟩ := m3 11 (by decide)
  obtain ⟨ru, rfl, -⟩ := b9.1 rfl
  obtain ⟨v, u12, b9⟩ := m3 12 (by decide)
  obtain ⟨en9, rfl, -⟩ := b9.1 rfl
  obtain ⟨v, u13, b9⟩ := m3 13 (by decide)
  obtain ⟨on, rfl, -⟩ := b9.1 rfl
  obtain ⟨v, u14, b9⟩ := m3 14 (by decide)
  obtain ⟨w9, rfl, c9⟩ := b9.1 rfl
  obtain ⟨E, hE, rfl⟩ := n_ofk (k := 1000) c9 (by decide)
  obtain ⟨v, u15, b9⟩ := m3 15 (by decide)
  obtain ⟨gF, rfl, -⟩ := b9.1 rfl
  obtain ⟨v, u16, b9⟩ := m3 16 (by decide)
  obtain ⟨gT, rfl, -⟩ := b9.1 rfl
  obtain ⟨v, u17, b9⟩ := m3 17 (by decide)
  obtain ⟨bF, rfl, -⟩ := b9.1 rfl
  obtain ⟨v, u18, b9⟩ := m3 18 (by decide)
  obtain ⟨bT, rfl, -⟩ := b9.1 rfl
  have e9 : fd = [.ref a0, .ref a1, .ref a2, .ref a3, .ref a4, .ref a5, .ref a6, .ref a7, .int (nI T), .int (nI Q), .int ti, .int ru, .int en9, .int on, .int (nI E), .int gF, .int gT, .int bF, .int bT] := by
    apply List.ext_getElem?
    intro k
    by_cases hk : k < 19
    · have : k = 0 ∨ k = 1 ∨ k = 2 ∨ k = 3 ∨ k = 4 ∨ k = 5 ∨ k = 6 ∨ k = 7 ∨ k = 8 ∨ k = 9 ∨ k = 10 ∨ k = 11 ∨ k = 12 ∨ k = 13 ∨ k = 14 ∨ k = 15 ∨ k = 16 ∨ k = 17 ∨ k = 18 := by omega
      rcases this with rfl | rfl | rfl | rfl | rfl | rfl | rfl | rfl | rfl | rfl | rfl | rfl | rfl | rfl | rfl | rfl | rfl | rfl | rfl
      · exact u0
      · exact u1
      · exact u2
      · exact u3
      · exact u4
      · exact u5
      · exact u6
      · exact u7
      · exact u8
      · exact u9
      · exact u10
      · exact u11
      · exact u12
      · exact u13
      · exact u14
      · exact u15
      · exact u16
      · exact u17
      · exact u18
    · rw [List.getElem?_eq_none (by omega), List.getElem?_eq_none (by show 19 ≤ k; omega)]
  subst e9
  clear u0 u1 u2 u3 u4 u5 u6 u7 u8 u9 u10 u11 u12 u13 u14 u15 u16 u17 u18 m2 m3 b9
  obtain ⟨nms, w0⟩ := q_arrLp p1 (q := d0) (g := 22) hp0 rfl ha0
  obtain ⟨wor, w1, -⟩ := q_arrAt p1 (q := p1q) (g := 23) (tp := 0) hp1 rfl (.inl rfl) ha1
  obtain ⟨par, w2, -⟩ := q_arrAt p1 (q := p2q) (g := 24) (tp := 0) hp2 rfl (.inl rfl) ha2
  obtain ⟨aft, w3, -⟩ := q_arrAt p1 (q := d3) (g := 25) (tp := 0) hp3 rfl (.inl rfl) ha3
  obtain ⟨tnn, w4⟩ := q_arrLp p1 (q := d4) (g := 26) hp4 rfl ha4
  obtain ⟨knd, w5, -⟩ := q_arrAt p1 (q := p5q) (g := 27) (tp := 0) hp5 rfl (.inl rfl) ha5
  obtain ⟨cod, w6, -⟩ := q_arrAt p1 (q := p6q) (g := 28) (tp := 0) hp6 rfl (.inl rfl) ha6
  have hAok : aOK ((nms, wor, par, aft, tnn, knd, cod, T, Q, ti, ru, en9, on, E, gF, gT, bF, bT) : aAS) := ⟨hT, hQ, hE⟩
  have hok0 : ∀ k, k < n0 → kok (f0 k) = true := fun k hk => by rw [hf0 k hk]; exact hok k hk
  have hC9 := c_readAbbey γ l rr rl ab mn h hg n0 f0 a0 a1 a2 a3 a4 a5 a6 a7 ((nms, wor, par, aft, tnn, knd, cod, T, Q, ti, ru, en9, on, E, gF, gT, bF, bT) : aAS) fa ab9 t2 tb t4 t5 t6 t7 hn hok0 hAok
  have hs := k_wide (f2 := 41) (l2 := 1000) (hs9 adr ws [.ref rr, .ref ab] ⟨p1, trivial, ⟨hv0, hv1, trivial⟩, fun f hf => (by cases hf), fun f hf => (by cases hf)⟩) (by decide) (by decide)
  have hnd : va_nd [19, 1, 2, pd, d0, p1q, p2q, d3, d4, p5q, p6q] = true := va_ndD (l := cD.1) (gs := [19, 1, 2, 21, 22, 23, 24, 25, 26, 27, 28]) (by
    show [cD.1[19]?, cD.1[1]?, cD.1[2]?, cD.1[pd]?, cD.1[d0]?, cD.1[p1q]?, cD.1[p2q]?, cD.1[d3]?, cD.1[d4]?, cD.1[p5q]?, cD.1[p6q]?] = _
    rw [hpd, hp0, hp1, hp2, hp3, hp4, hp5, hp6]
    rfl) (by decide)
  have hce : [ws[19]?, ws[1]?, ws[2]?, ws[pd]?, ws[d0]?, ws[p1q]?, ws[p2q]?, ws[d3]?, ws[d4]?, ws[p5q]?, ws[p6q]?] = ([(rr, .inr (5, [.ref h, .ref rl, .ref ab9, .int mn, .int fa])), (h, .inr (8, [.ref hg, .int (nI n0), .int t2, .int tb, .int t4, .int t5, .long t6, .ref t7])), (hg, .inl (γ.2.1 2, 1000, .inl f0)), (ab, .inr (0, [.ref a0, .ref a1, .ref a2, .ref a3, .ref a4, .ref a5, .ref a6, .ref a7, .int (nI T), .int (nI Q), .int ti, .int ru, .int en9, .int on, .int (nI E), .int gF, .int gT, .int bF, .int bT])), (a0, .inl (γ.2.1 1, 8, .inr (.inl nms))), (a1, .inl (γ.2.1 0, 8, .inl wor)), (a2, .inl (γ.2.1 0, 8, .inl par)), (a3, .inl (γ.2.1 0, 8, .inl aft)), (a4, .inl (γ.2.1 1, 5, .inr (.inl tnn))), (a5, .inl (γ.2.1 0, 5, .inl knd)), (a6, .inl (γ.2.1 0, 1000, .inl cod))] : va_W).map some := by
    rw [r1, k1, s1, m1, w0, w1, w2, w3, w4, w5, w6]
    rfl
  refine k_imp (k_andF hs hC9 ⟨by decide, by decide, by decide, by decide⟩ [19, 1, 2, pd, d0, p1q, p2q, d3, d4, p5q, p6q] hnd hce) (fun r w1 hq => ?_)
  obtain ⟨hq0, H, w2, ⟨q5, q6⟩, k1, k2, k3⟩ := hq
  subst q6
  have hz := q_post0 (q := 1) (k := 1) (by decide +kernel) hq0
  have hni : ∀ p g, cD.1[p]? = some g → (g = 21 ∧ p ≠ pd ∨ g = 22 ∧ p ≠ d0 ∨ g = 25 ∧ p ≠ d3 ∨ g = 26 ∧ p ≠ d4) → ¬ p ∈ [19, 1, 2, pd, d0, p1q, p2q, d3, d4, p5q, p6q] := by
    intro p g hp hg9 hm
    simp only [List.mem_cons, List.mem_nil_iff, or_false] at hm
    rcases hm with h | h | h | h | h | h | h | h | h | h | h
    · exact g_ne h hp (show cD.1[19]? = some 19 from rfl) (by omega)
    · exact g_ne h hp (show cD.1[1]? = some 1 from rfl) (by omega)
    · exact g_ne h hp (show cD.1[2]? = some 2 from rfl) (by omega)
    · rcases hg9 with ⟨h8, h9⟩ | ⟨h8, h9⟩ | ⟨h8, h9⟩ | ⟨h8, h9⟩ <;> first | exact h9 h | exact g_ne h hp hpd (by omega)
    · rcases hg9 with ⟨h8, h9⟩ | ⟨h8, h9⟩ | ⟨h8, h9⟩ | ⟨h8, h9⟩ <;> first | exact h9 h | exact g_ne h hp hp0 (by omega)
    · exact g_ne h hp hp1 (by omega)
    · exact g_ne h hp hp2 (by omega)
    · rcases hg9 with ⟨h8, h9⟩ | ⟨h8, h9⟩ | ⟨h8, h9⟩ | ⟨h8, h9⟩ <;> first | exact h9 h | exact g_ne h hp hp3 (by omega)
    · rcases hg9 with ⟨h8, h9⟩ | ⟨h8, h9⟩ | ⟨h8, h9⟩ | ⟨h8, h9⟩ <;> first | exact h9 h | exact g_ne h hp hp4 (by omega)
    · exact g_ne h hp hp5 (by omega)
    · exact g_ne h hp hp6 (by omega)
  refine ⟨?_, hq0.1, hq0.2.2.1, hz, ?_, fun h0 => ⟨(nms, wor, par, aft, tnn, knd, cod, T, Q, ti, ru, en9, on, E, gF, gT, bF, bT), f0, t5, t6, hf0, ?_⟩⟩
  · rw [q5, fvA_c hf0 hn]
  · refine cCt_tr (fun q k v hq hv => ?_) hCt
    rcases hq with e | e | e | e
    · subst e; exact q_sO (ci := 0) p1 hq0.1 hA.1 rfl rfl rfl k1 (fun c hc => k3 _ c hc (hni _ 21 hA.1 (.inl ⟨rfl, hne.1⟩))) hv
    · subst e; exact q_sL p1 hq0.1 hA.2.1 rfl k1 (fun c hc => k3 _ c hc (hni _ 22 hA.2.1 (.inr (.inl ⟨rfl, hne.2.1⟩)))) hv
    · subst e; exact q_sI p1 hq0.1 hA.2.2.1 rfl (.inl rfl) k1 (fun c hc => k3 _ c hc (hni _ 25 hA.2.2.1 (.inr (.inr (.inl ⟨rfl, hne.2.2.1⟩))))) hv
    · subst e; exact q_sL p1 hq0.1 hA.2.2.2.1 rfl k1 (fun c hc => k3 _ c hc (hni _ 26 hA.2.2.2.1 (.inr (.inr (.inr ⟨rfl, hne.2.2.2⟩))))) hv
  · have hO := rb_ok (a := (nms, wor, par, aft, tnn, knd, cod, T, Q, ti, ru, en9, on, E, gF, gT, bF, bT)) (t5 := t5) (t6 := t6) hf0 hn h0
    refine ⟨hO.1, hO.2.1, ?_, ?_, fun i hi => ?_, fun i hi => ?_, fun i hi => ?_⟩
    · exact q_eO (ci := 0) hq0.1 hpd rfl rfl rfl hab k1 (k2 3 _ rfl) (by decide) rfl
    · exact q_eO (ci := 0) hq0.1 hpd rfl rfl rfl hab k1 (k2 3 _ rfl) (by decide) rfl
    · exact q_eL hq0.1 hp0 rfl ha0 k1 (k2 4 _ rfl) i (Nat.lt_of_lt_of_le hi hO.1)
    · exact q_eL hq0.1 hp4 rfl ha4 k1 (k2 8 _ rfl) i (Nat.lt_of_lt_of_le hi hO.2.1)
    · exact q_eI hq0.1 hp3 rfl (.inl rfl) ha3 k1 (k2 7 _ rfl) i (Nat.lt_of_lt_of_le hi hO.1)
theorem x_sw {x : Nat} {c c' : va_E} {wr : va_W} {q k : Nat} (h : q ≠ 0) : qsl2 ((x, c') :: wr) q k = qsl2 ((x, c) :: wr) q k := by
  cases q with
  | zero => exact absurd rfl h
  | succ q => rfl
theorem x_swT {x : Nat} {c c' : va_E} {wr : va_W} {k k' p : Nat} (hs : qrd c' k' = qrd c k) (h : rT ((x, c) :: wr) 0 k p) : rT ((x, c') :: wr) 0 k' p := by
  obtain ⟨a, h1, h2⟩ := h
  exact ⟨a, h1, (show qrd c' k' = some (.ref a) from hs.trans h2)⟩
theorem c_half0 {w : va_W} {p a b c : Nat} (h : cHalf w p a b c) : p ≠ 0 ∧ a ≠ 0 ∧ b ≠ 0 ∧ c ≠ 0 := ⟨fun e => g_ne e h.1 (show cD.1[0]? = some 0 from rfl) (by decide), fun e => g_ne e h.2.1 (show cD.1[0]? = some 0 from rfl) (by decide), fun e => g_ne e h.2.2.1 (show cD.1[0]? = some 0 from rfl) (by decide), fun e => g_ne e h.2.2.2.1 (show cD.1[0]? = some 0 from rfl) (by decide)⟩
theorem q_swapO {D : qWd} {γ : kΓ} {adr : List Nat} {x ci N : Nat} {sg : List (Nat × qTy)} {fs fs' : List Value} {wr : va_W} (hr : D.2.1[0]? = some (10 + ci, N, sg)) (hH : qH D γ adr (fun _ _ => False) ((x, .inr (ci, fs)) :: wr)) (h0 : D.1[0]? = some 0) (hlen : fs'.length = fs.length) (hs : ∀ k, k < N → ∃ j, j < N ∧ fs'[k]? = fs[j]? ∧ qsg sg k = qsg sg j) : qH D γ adr (fun _ _ => False) ((x, .inr (ci, fs')) :: wr) := by
  obtain ⟨h1, h2, h3⟩ := hH
  refine ⟨h1, h2, fun q g a c hg hc => ?_⟩
  cases q with
  | succ q => exact h3 (q + 1) g a c hg hc
  | zero =>
    have hc : some (x, (.inr (ci, fs') : va_E)) = some (a, c) := hc
    cases hc
    rw [h0] at hg
    cases hg
    obtain ⟨r, r1, r2, r3⟩ := h3 0 0 x _ h0 rfl
    rw [hr] at r1
    cases r1
    refine ⟨_, hr, ⟨r2.1, hlen.trans r2.2⟩, fun k hk => ?_⟩
    obtain ⟨j, j1, j2, j3⟩ := hs k hk
    rcases r3 j j1 with h9 | ⟨v, v1, v2⟩
    · exact h9.elim
    · exact .inr ⟨v, j2.trans v1, by rw [j3]; exact v2⟩
set_option maxRecDepth 100000 in
theorem x_swH {γ : kΓ} {adr : List Nat} {x y0 y1 y2 y3 y4 y5 y6 y7 y8 y9 y10 : Nat} {wr1 : va_W} (hH : qH cD γ adr (fun _ _ => False) ((x, .inr (10, [.ref y0, .ref y1, .ref y2, .ref y3, .ref y4, .ref y5, .ref y6, .ref y7, .ref y8, .ref y9, .ref y10])) :: wr1)) : qH cD γ adr (fun _ _ => False) ((x, .inr (10, [.ref y0, .ref y1, .ref y2, .ref y3, .ref y4, .ref y5, .ref y6, .ref y7, .ref y8, .ref y10, .ref y9])) :: wr1) := by
  refine q_swapO (ci := 10) (N := 11) rfl hH rfl rfl (fun k hk => ?_)
  have : k = 0 ∨ k = 1 ∨ k = 2 ∨ k = 3 ∨ k = 4 ∨ k = 5 ∨ k = 6 ∨ k = 7 ∨ k = 8 ∨ k = 9 ∨ k = 10 := by omega
  rcases this with rfl | rfl | rfl | rfl | rfl | rfl | rfl | rfl | rfl | rfl | rfl
  · exact ⟨0, by decide, rfl, rfl⟩
  · exact ⟨1, by decide, rfl, rfl⟩
  · exact ⟨2, by decide, rfl, rfl⟩
  · exact ⟨3, by decide, rfl, rfl⟩
  · exact ⟨4, by decide, rfl, rfl⟩
  · exact ⟨5, by decide, rfl, rfl⟩
  · exact ⟨6, by decide, rfl, rfl⟩
  · exact ⟨7, by decide, rfl, rfl⟩
  · exact ⟨8, by decide, rfl, rfl⟩
  · exact ⟨10, by decide, rfl, rfl⟩
  · exact ⟨9, by decide, rfl, rfl⟩
theorem ra_m21 : ∀ k, k < 8 → qmod cn_100.2.2.2.2.2 21 k = false := by decide
set_option maxHeartbeats 4000000 in
set_option maxRecDepth 100000 in
theorem ab_class2 (γ : kΓ) (l : Launch) {f : Nat → Int32} {n : Nat} (hn : n ≤ 1000) (hok : ∀ k, k < n → kok (f k) = true) {adr : List Nat} {wx : va_W} {x : Nat} {S : tS} (hH : qH cD γ adr (fun _ _ => False) wx) (hax : adr[0]? = some x) (hXT : XT f n wx) (hT : cTo wx S) :
    kM γ l yX11_abbey cX11_abbey 3 (some .int) ({ frames := 60, cells := 0, slots := 0, locals := 1200 } : Room) [.ref x] wx (fun r w1 => r = some (.int (fvA f n)) ∧ qH cD γ adr (fun _ _ => False) w1 ∧ qsl2 w1 1 1 = some (.int 0) ∧ (¬ fvA f n = 0 → cTo w1 S) ∧ (fvA f n = 0 → ∃ (a0 : aAS) (f0 : Nat → Int32) (t5 : Int32) (t6 : Int64), (∀ k, k < n → f0 k = f k) ∧ cTo w1 (tSof (F_readAbbey f0 n a0 t5 t6).2.2))) := by
  refine k_ofW (by decide) (by show 1 ≤ 3; decide) ?_
  intro p e s m below meth cd A ls hC hr hlocks hname hw hl
  have hx := hC.1
  have hb := hC.2.1
  have hl : lv_has ls 3 [(0, .ref x)] := hl
  obtain ⟨pt, t0, t3, t4, pd, d0, d3, d4, hA, hB, hne, h9, h10, hCt⟩ := hT
  obtain ⟨x0, x1, x2, x3, x4, x5, x6, x7, x8, x9, x10, wr, hwx⟩ := c_x11 hH hax
  have h0 : wx[0]? = some (x, .inr (10, [.ref x0, .ref x1, .ref x2, .ref x3, .ref x4, .ref x5, .ref x6, .ref x7, .ref x8, .ref x9, .ref x10])) := by rw [hwx]; rfl
  have hax19 : adr[19]? = some x8 := by
    obtain ⟨fs0, f0, f1, f2⟩ := q_objAt hH (q := 0) (g := 0) (ci := 10) rfl rfl hax
    rw [h0] at f0
    cases f0
    obtain ⟨v0, e0, g0⟩ := f2 8 (by decide)
    cases e0
    obtain ⟨x9', e0, hx0⟩ := q_sg2 cDok (g := 19) (by decide) g0
    cases e0
    exact hx0
  have hpx : adr[pd]? = some x10 := by
    obtain ⟨a, e1, e2⟩ := h10
    unfold qsl2 at e2
    rw [h0] at e2
    have e2 : some (Value.ref x10) = some (.ref a) := e2
    cases e2
    rw [← hH.1]
    exact e1
  clear h0
  subst hwx
  refine lv_aload_n hx hb dX11_abbey_0 rfl (lv_at hl 0 rfl) ?_
  refine fg_RX11_77 hC hw 0 rfl rfl dX11_abbey_1 ?_
  refine lv_aload_n hx hb dX11_abbey_4 rfl (lv_at hl 0 rfl) ?_
  refine fg_RX11_69 hC hw 0 rfl rfl dX11_abbey_5 ?_
  obtain ⟨frr, r1, -, -⟩ := q_objAt hH (q := 19) (g := 19) (ci := 5) rfl rfl hax19
  refine k_V (wr := []) 1 gw_447 gw_448 gw_449 gw_14 gw_450 hd_X5_readAbbey hC hw (ra_class2 γ l hn hok hH hXT hA hB hne hCt hax19 hpx) ⟨by decide, by decide⟩ ⟨by decide, by decide⟩ hl.1 rfl 19 r1 rfl rfl (Nat.le_of_ble_eq_true rfl) (List.range _) [] (q_nd _) (q_all _) rfl rfl (fun i hi => by cases hi) dX11_abbey_8 (fun r w1 H locs hq hw => ?_)
  have hw : kW γ A w1 s H locs := hw
  obtain ⟨rfl, hH1, hK1, hz1, hC1, hS2⟩ := hq
  have hf1 : w1.map Prod.fst = _ := hH1.1.trans hH.1.symm
  have hA1 := cHalf_tr hf1 (fun k hk => q_kp2 hH hH1 hK1 hA.1 (ra_m21 k hk)) hA
  have hB1 := cHalf_tr hf1 (fun k hk => q_kp2 hH hH1 hK1 hB.1 (ra_m21 k hk)) hB
  have h91 := rT_tr hf1 (q_kp2 hH hH1 hK1 (q := 0) (g := 0) (k := 9) rfl (by decide)) h9
  have h101 := rT_tr hf1 (q_kp2 hH hH1 hK1 (q := 0) (g := 0) (k := 10) rfl (by decide)) h10
  refine W.eq (g2 := F0 m 11 ls [.int (fvA f n)]) rfl ?_
  refine lv_istore_n (lv' := [(1, .int (fvA f n)), (0, .ref x)]) hx hb dX11_abbey_11 rfl hl (by decide) rfl (fun ls hl => ?_)
  refine lv_iload_n hx hb dX11_abbey_12 rfl (lv_at hl 0 rfl) ?_
  refine lv_if_ne (tgt := 38) hx hb dX11_abbey_13 (by decide) (fun hnz => ?_) (fun hez => ?_)
  · refine lv_iload_n hx hb dX11_abbey_38 rfl (lv_at hl 0 rfl) ?_
    exact k_iret hC hr hlocks hw (List.range w1.length) (q_nd _) (q_all w1) ⟨rfl, hH1, hz1, fun _ => ⟨pt, t0, t3, t4, pd, d0, d3, d4, hA1, hB1, hne, h91, h101, hC1⟩, fun h => absurd h hnz⟩ (Nat.le_refl _) (Nat.le_refl _) dX11_abbey_39
  · obtain ⟨a0, f0, t5, t6, hfg, hC2⟩ := hS2 hez
    obtain ⟨y0, y1, y2, y3, y4, y5, y6, y7, y8, y9, y10, wr1, hw1⟩ := c_x11 hH1 hax
    clear hS2 hK1 hf1
    subst hw1
    refine lv_aload_n hx hb dX11_abbey_16 rfl (lv_at hl 1 rfl) ?_
    refine fg_RX11_65 hC hw 0 rfl rfl dX11_abbey_17 ?_
    refine lv_astore_n (lv' := [(2, .ref y9), (1, .int (fvA f n)), (0, .ref x)]) hx hb dX11_abbey_20 rfl hl (by decide) rfl (fun ls hl => ?_)
    refine lv_aload_n hx hb dX11_abbey_21 rfl (lv_at hl 2 rfl) ?_
    refine lv_aload_n hx hb dX11_abbey_22 rfl (lv_at hl 2 rfl) ?_
    refine fg_RX11_69 hC hw 0 rfl rfl dX11_abbey_23 ?_
    refine fs_RX11_65 hC hw 0 rfl rfl rfl (Nat.le_of_ble_eq_true rfl) dX11_abbey_26 (fun H locs hw => ?_)
    have hw : kW γ A ((x, .inr (10, [.ref y0, .ref y1, .ref y2, .ref y3, .ref y4, .ref y5, .ref y6, .ref y7, .ref y8, .ref y10, .ref y10])) :: wr1) s H locs := hw
    refine lv_aload_n hx hb dX11_abbey_29 rfl (lv_at hl 2 rfl) ?_
    refine lv_aload_n hx hb dX11_abbey_30 rfl (lv_at hl 0 rfl) ?_
    refine fs_RX11_69 hC hw 0 rfl rfl rfl (Nat.le_of_ble_eq_true rfl) dX11_abbey_31 (fun H locs hw => ?_)
    have hw : kW γ A ((x, .inr (10, [.ref y0, .ref y1, .ref y2, .ref y3, .ref y4, .ref y5, .ref y6, .ref y7, .ref y8, .ref y10, .ref y9])) :: wr1) s H locs := hw
    have hH2 := x_swH hH1
    have hA2 := cHalf_tr (w' := ((x, .inr (10, [.ref y0, .ref y1, .ref y2, .ref y3, .ref y4, .ref y5, .ref y6, .ref y7, .ref y8, .ref y10, .ref y9])) :: wr1)) (by rfl) (fun k _ => x_sw (c' := .inr (10, [.ref y0, .ref y1, .ref y2, .ref y3, .ref y4, .ref y5, .ref y6, .ref y7, .ref y8, .ref y10, .ref y9])) (c_half0 hA1).1) hA1
    have hB2 := cHalf_tr (w' := ((x, .inr (10, [.ref y0, .ref y1, .ref y2, .ref y3, .ref y4, .ref y5, .ref y6, .ref y7, .ref y8, .ref y10, .ref y9])) :: wr1)) (by rfl) (fun k _ => x_sw (c' := .inr (10, [.ref y0, .ref y1, .ref y2, .ref y3, .ref y4, .ref y5, .ref y6, .ref y7, .ref y8, .ref y10, .ref y9])) (c_half0 hB1).1) hB1
    have h92 : rT ((x, .inr (10, [.ref y0, .ref y1, .ref y2, .ref y3, .ref y4, .ref y5, .ref y6, .ref y7, .ref y8, .ref y10, .ref y9])) :: wr1) 0 9 pd := x_swT rfl h101
    have h102 : rT ((x, .inr (10, [.ref y0, .ref y1, .ref y2, .ref y3, .ref y4, .ref y5, .ref y6, .ref y7, .ref y8, .ref y10, .ref y9])) :: wr1) 0 10 pt := x_swT rfl h91
    have hC22 : cCt ((x, .inr (10, [.ref y0, .ref y1, .ref y2, .ref y3, .ref y4, .ref y5, .ref y6, .ref y7, .ref y8, .ref y10, .ref y9])) :: wr1) pd d0 d3 d4 (tSof (F_readAbbey f0 n a0 t5 t6).2.2) := by
      refine cCt_tr (fun q k v hq hv => ?_) hC2
      rcases hq with e | e | e | e
      · subst e; exact (x_sw (c_half0 hB1).1).trans hv
      · subst e; exact (x_sw (c_half0 hB1).2.1).trans hv
      · subst e; exact (x_sw (c_half0 hB1).2.2.1).trans hv
      · subst e; exact (x_sw (c_half0 hB1).2.2.2).trans hv
    have hz2 : qsl2 ((x, .inr (10, [.ref y0, .ref y1, .ref y2, .ref y3, .ref y4, .ref y5, .ref y6, .ref y7, .ref y8, .ref y10, .ref y9])) :: wr1) 1 1 = some (.int 0) := (x_sw (by decide)).trans hz1
    refine lv_aload_n hx hb dX11_abbey_34 rfl (lv_at hl 2 rfl) ?_
    obtain ⟨y99, hy9, hs9⟩ := cs_36 γ l
    cases hy9
    refine k_V (wr := []) 0 gw_647 gw_649 gp_21 gw_1 gw_650 hd_X11_beginAnew hC hw (hs9 adr _ [.ref x] ⟨hH2, trivial, ⟨v_ref rfl hax, trivial⟩, fun f hf => (by cases hf), fun f hf => (by cases hf)⟩) ⟨by decide, by decide⟩ ⟨by decide, by decide⟩ hl.1 rfl 0 rfl rfl rfl (Nat.le_of_ble_eq_true rfl) (List.range _) [] (q_nd _) (q_all _) rfl rfl (fun i hi => by cases hi) dX11_abbey_35 (fun r w3 H locs hq hw => ?_)
    have hw : kW γ A w3 s H locs := hw
    obtain ⟨hH3, -, hK3, t, t1, t2⟩ := hq
    have t1 := List.mem_singleton.mp t1
    subst t1
    have hr9 : r = none := by
      rcases t2.1 with ⟨-, h⟩ | ⟨ty, v, h, -⟩
      · exact h
      · cases h
    subst hr9
    refine W.eq (g2 := F0 m 38 ls []) rfl ?_
    refine lv_iload_n hx hb dX11_abbey_38 rfl (lv_at hl 1 rfl) ?_
    exact k_iret hC hr hlocks hw (List.range w3.length) (q_nd _) (q_all w3) ⟨rfl, hH3, (q_kp2 hH2 hH3 hK3 (q := 1) (g := 1) (k := 1) rfl (by decide)).trans hz2, fun h => absurd hez h, fun _ => ⟨a0, f0, t5, t6, hfg, cTo_keep hH2 hH3 hK3 (by decide) ⟨pd, d0, d3, d4, pt, t0, t3, t4, hB2, hA2, ⟨hne.1.symm, hne.2.1.symm, hne.2.2.1.symm, hne.2.2.2.symm⟩, h92, h102, hC22⟩⟩⟩ (Nat.le_refl _) (Nat.le_refl _) dX11_abbey_39

/-! years on the typed worlds: the class -/
set_option maxHeartbeats 4000000 in
set_option maxRecDepth 100000 in
theorem l_yearsX (γ : kΓ) (l : Launch) {f : Nat → Int32} {n : Nat} (hn : n ≤ 1000) (hok : ∀ k, k < n → kok (f k) = true) {ax : List Nat} {wx : va_W} {x : Nat} {S : tS} (hH : qH cD γ ax (fun _ _ => False) wx) (hax : ax[0]? = some x) (hXT : XT f n wx) (hT : cTo wx S) : kM γ l yX11_years cX11_years 1 (some .int) ({ frames := 5, cells := 0, slots := 0, locals := 128 } : Room) [.ref x] wx (fun r w1 => (∃ v : Int32, r = some (.int v) ∧ yC f n S v) ∧ qH cD γ ax (fun _ _ => False) w1 ∧ qK cD cn_180.2.2.2.2.2 wx w1 ∧ qsl2 w1 1 1 = some (.int 0)) := by
  obtain ⟨pt, t0, t3, t4, pd, d0, d3, d4, hA, hB, hne, h9, h10, hCt⟩ := hT
  obtain ⟨x0, x1, x2, x3, x4, x5, x6, x7, x8, x9, x10, wr, hwx⟩ := c_x11 hH hax
  have h0 : wx[0]? = some (x, .inr (10, [.ref x0, .ref x1, .ref x2, .ref x3, .ref x4, .ref x5, .ref x6, .ref x7, .ref x8, .ref x9, .ref x10])) := by rw [hwx]; rfl
  obtain ⟨fs0, f0, f1, f2⟩ := q_objAt hH (q := 0) (g := 0) (ci := 10) rfl rfl hax
  rw [h0] at f0
  cases f0
  obtain ⟨v, e, b9⟩ := f2 8 (by decide)
  cases e
  obtain ⟨rr, e, hrr⟩ := q_sg2 cDok (g := 19) (by decide) b9
  cases e
  obtain ⟨v, e, b9⟩ := f2 2 (by decide)
  cases e
  obtain ⟨pp, pg, e, hpp, hpg⟩ := q_refp (g := 37) (by decide) b9
  cases e
  have hpt : ax[pt]? = some x9 := by
    obtain ⟨a, e1, e2⟩ := h9
    unfold qsl2 at e2
    rw [h0] at e2
    have e2 : some (Value.ref x9) = some (.ref a) := e2
    cases e2
    rw [← hH.1]
    exact e1
  clear f1 f2 b9 hwx
  obtain ⟨fr, r1, r2, r3⟩ := q_objAt hH (q := 19) (g := 19) (ci := 5) rfl rfl hrr
  obtain ⟨v, u0, b0⟩ := r3 0 (by decide)
  obtain ⟨h, rfl, hh⟩ := q_sg2 cDok (g := 1) (by decide) b0
  obtain ⟨v, u1, b1⟩ := r3 1 (by decide)
  obtain ⟨rl, rfl, hrl⟩ := q_sg2 cDok (g := 20) (by decide) b1
  obtain ⟨v, u2, b2⟩ := r3 2 (by decide)
  obtain ⟨ab9, rfl⟩ := q_any (g := 21) b2
  obtain ⟨v, u3, b3⟩ := r3 3 (by decide)
  obtain ⟨mn, rfl, -⟩ := b3.1 rfl
  obtain ⟨v, u4, b4⟩ := r3 4 (by decide)
  obtain ⟨fa, rfl, -⟩ := b4.1 rfl
  have e9 : fr = [.ref h, .ref rl, .ref ab9, .int mn, .int fa] := by
    apply List.ext_getElem?
    intro k
    by_cases hk : k < 5
    · have : k = 0 ∨ k = 1 ∨ k = 2 ∨ k = 3 ∨ k = 4 := by omega
      rcases this with rfl | rfl | rfl | rfl | rfl
      · exact u0
      · exact u1
      · exact u2
      · exact u3
      · exact u4
    · rw [List.getElem?_eq_none (by omega), List.getElem?_eq_none (by show 5 ≤ k; omega)]
  subst e9
  clear u0 u1 u2 u3 u4 b0 b1 b2 b3 b4 r2 r3
  obtain ⟨fs, k1, k2, k3⟩ := q_objAt hH (q := 1) (g := 1) (ci := 8) rfl rfl hh
  obtain ⟨hg, t7, n0, t2, tb, t4', t5, t6, hn0, hxg, rfl⟩ := c_tok k2 k3
  have en : n0 = n := by
    have h9 := hXT.1
    unfold qsl2 at h9
    rw [k1] at h9
    exact n_inj hn0 hn (Value.int.inj (Option.some.inj h9))
  subst en
  obtain ⟨f0, s1, s2⟩ := q_arrAt hH (q := 2) (g := 2) (tp := 2) rfl rfl (.inr (.inl rfl)) hxg
  have hf0 : ∀ k, k < n0 → f0 k = f k := fun k hk => by
    have h9 := hXT.2 k hk
    unfold qsl2 at h9
    rw [s1] at h9
    have h9 : (if k < 1000 then some (Value.int (f0 k)) else none) = some (Value.int (f k)) := h9
    rw [if_pos (by omega)] at h9
    exact Value.int.inj (Option.some.inj h9)
  obtain ⟨ln, s20, -⟩ := q_arrAt hH (q := 20) (g := 20) (tp := 0) rfl rfl (.inl rfl) hrl
  obtain ⟨fp, g1, g2, g3⟩ := q_objAt hH (q := pp) (g := 37) (ci := 3) hpp rfl hpg
  obtain ⟨v, u0, b0⟩ := g3 0 (by decide)
  obtain ⟨ps, rfl⟩ := q_any (g := 30) b0
  obtain ⟨v, u1, b1⟩ := g3 1 (by decide)
  obtain ⟨pyq, py, rfl, hpy, hapy⟩ := q_refp (g := 38) (by decide) b1
  obtain ⟨v, u2, b2⟩ := g3 2 (by decide)
  obtain ⟨pq, rfl⟩ := q_any (g := 39) b2
  obtain ⟨v, u3, b3⟩ := g3 3 (by decide)
  obtain ⟨l3, rfl, -⟩ := b3.1 rfl
  obtain ⟨v, u4, b4⟩ := g3 4 (by decide)
  obtain ⟨l4, rfl, -⟩ := b4.1 rfl
  obtain ⟨v, u5, b5⟩ := g3 5 (by decide)
  obtain ⟨l5, rfl, -⟩ := b5.1 rfl
  have e9 : fp = [.ref ps, .ref py, .ref pq, .int l3, .int l4, .int l5] := by
    apply List.ext_getElem?
    intro k
    by_cases hk : k < 6
    · have : k = 0 ∨ k = 1 ∨ k = 2 ∨ k = 3 ∨ k = 4 ∨ k = 5 := by omega
      rcases this with rfl | rfl | rfl | rfl | rfl | rfl
      · exact u0
      · exact u1
      · exact u2
      · exact u3
      · exact u4
      · exact u5
    · rw [List.getElem?_eq_none (by omega), List.getElem?_eq_none (by show 6 ≤ k; omega)]
  subst e9
  clear u0 u1 u2 u3 u4 u5 b0 b1 b2 b3 b4 b5 g2 g3
  obtain ⟨yy, w38, -⟩ := q_arrAt hH (q := pyq) (g := 38) (tp := 0) hpy rfl (.inl rfl) hapy
  obtain ⟨fd, d1, d2, d9⟩ := q_objAt hH (q := pt) (g := 21) (ci := 0) hA.1 rfl hpt
  obtain ⟨v, u0, b9⟩ := d9 0 (by decide)
  obtain ⟨p0q, a0, rfl, hp0, ha0⟩ := q_refp (g := 22) (by decide) b9
  obtain ⟨v, u1, b9⟩ := d9 1 (by decide)
  obtain ⟨p1q, a1, rfl, hp1, ha1⟩ := q_refp (g := 23) (by decide) b9
  obtain ⟨v, u2, b9⟩ := d9 2 (by decide)
  obtain ⟨p2q, a2, rfl, hp2, ha2⟩ := q_refp (g := 24) (by decide) b9
  obtain ⟨v, u3, b9⟩ := d9 3 (by decide)
  obtain ⟨p3q, a3, rfl, hp3, ha3⟩ := q_refp (g := 25) (by decide) b9
  obtain ⟨v, u4, b9⟩ := d9 4 (by decide)
  obtain ⟨p4q, a4, rfl, hp4, ha4⟩ := q_refp (g := 26) (by decide) b9
  obtain ⟨v, u5, b9⟩ := d9 5 (by decide)
  obtain ⟨p5q, a5, rfl, hp5, ha5⟩ := q_refp (g := 27) (by decide) b9
  obtain ⟨v, u6, b9⟩ := d9 6 (by decide)
  obtain ⟨p6q, a6, rfl, hp6, ha6⟩ := q_refp (g := 28) (by decide) b9
  obtain ⟨v, u7, b9⟩ := d9 7 (by decide)
  obtain ⟨p7q, a7, rfl, hp7, ha7⟩ := q_refp (g := 29) (by decide) b9
  obtain ⟨v, u8, b9⟩ := d9 8 (by decide)
  obtain ⟨w9, rfl, c9⟩ := b9.1 rfl
  obtain ⟨T, hT, rfl⟩ := n_ofk (k := 8) c9 (by decide)
  obtain ⟨v, u9, b9⟩ := d9 9 (by decide)
  obtain ⟨w9, rfl, c9⟩ := b9.1 rfl
  obtain ⟨Q, hQ, rfl⟩ := n_ofk (k := 5) c9 (by decide)
  obtain ⟨v, u10, b9⟩ := d9 10 (by decide)
  obtain ⟨ti, rfl, -⟩ := b9.1 rfl
  obtain ⟨v, u11, b9⟩ := d9 11 (by decide)
  obtain ⟨ru, rfl, -⟩ := b9.1 rfl
  obtain ⟨v, u12, b9⟩ := d9 12 (by decide)
  obtain ⟨en9, rfl, -⟩ := b9.1 rfl
  obtain ⟨v, u13, b9⟩ := d9 13 (by decide)
  obtain ⟨on, rfl, -⟩ := b9.1 rfl
  obtain ⟨v, u14, b9⟩ := d9 14 (by decide)
  obtain ⟨w9, rfl, c9⟩ := b9.1 rfl
  obtain ⟨E, hE, rfl⟩ := n_ofk (k := 1000) c9 (by decide)
  obtain ⟨v, u15, b9⟩ := d9 15 (by decide)
  obtain ⟨gF, rfl, -⟩ := b9.1 rfl
  obtain ⟨v, u16, b9⟩ := d9 16 (by decide)
  obtain ⟨gT, rfl, -⟩ := b9.1 rfl
  obtain ⟨v, u17, b9⟩ := d9 17 (by decide)
  obtain ⟨bF, rfl, -⟩ := b9.1 rfl
  obtain ⟨v, u18, b9⟩ := d9 18 (by decide)
  obtain ⟨bT, rfl, -⟩ := b9.1 rfl
  have e9 : fd = [.ref a0, .ref a1, .ref a2, .ref a3, .ref a4, .ref a5, .ref a6, .ref a7, .int (nI T), .int (nI Q), .int ti, .int ru, .int en9, .int on, .int (nI E), .int gF, .int gT, .int bF, .int bT] := by
    apply List.ext_getElem?
    intro k
    by_cases hk : k < 19
    · have : k = 0 ∨ k = 1 ∨ k = 2 ∨ k = 3 ∨ k = 4 ∨ k = 5 ∨ k = 6 ∨ k = 7 ∨ k = 8 ∨ k = 9 ∨ k = 10 ∨ k = 11 ∨ k = 12 ∨ k = 13 ∨ k = 14 ∨ k = 15 ∨ k = 16 ∨ k = 17 ∨ k = 18 := by omega
      rcases this with rfl | rfl | rfl | rfl | rfl | rfl | rfl | rfl | rfl | rfl | rfl | rfl | rfl | rfl | rfl | rfl | rfl | rfl | rfl
      · exact u0
      · exact u1
      · exact u2
      · exact u3
      · exact u4
      · exact u5
      · exact u6
      · exact u7
      · exact u8
      · exact u9
      · exact u10
      · exact u11
      · exact u12
      · exact u13
      · exact u14
      · exact u15
      · exact u16
      · exact u17
      · exact u18
    · rw [List.getElem?_eq_none (by omega), List.getElem?_eq_none (by show 19 ≤ k; omega)]
  subst e9
  clear u0 u1 u2 u3 u4 u5 u6 u7 u8 u9 u10 u11 u12 u13 u14 u15 u16 u17 u18 d2 d9 b9
  have hb0 : ax[t0]? = some a0 := by
    obtain ⟨a, e1, e2⟩ := hA.2.2.2.2.1
    unfold qsl2 at e2
    rw [d1] at e2
    have e2 : some (Value.ref a0) = some (.ref a) := e2
    cases e2
    rw [← hH.1]
    exact e1
  have hb3 : ax[t3]? = some a3 := by
    obtain ⟨a, e1, e2⟩ := hA.2.2.2.2.2.1
    unfold qsl2 at e2
    rw [d1] at e2
    have e2 : some (Value.ref a3) = some (.ref a) := e2
    cases e2
    rw [← hH.1]
    exact e1
  have hb4 : ax[t4]? = some a4 := by
    obtain ⟨a, e1, e2⟩ := hA.2.2.2.2.2.2
    unfold qsl2 at e2
    rw [d1] at e2
    have e2 : some (Value.ref a4) = some (.ref a) := e2
    cases e2
    rw [← hH.1]
    exact e1
  obtain ⟨nms, w0⟩ := q_arrLp hH (q := t0) (g := 22) hA.2.1 rfl hb0
  obtain ⟨wor, w1, -⟩ := q_arrAt hH (q := p1q) (g := 23) (tp := 0) hp1 rfl (.inl rfl) ha1
  obtain ⟨par, w2, -⟩ := q_arrAt hH (q := p2q) (g := 24) (tp := 0) hp2 rfl (.inl rfl) ha2
  obtain ⟨aft, w3, -⟩ := q_arrAt hH (q := t3) (g := 25) (tp := 0) hA.2.2.1 rfl (.inl rfl) hb3
  obtain ⟨tnn, w4⟩ := q_arrLp hH (q := t4) (g := 26) hA.2.2.2.1 rfl hb4
  obtain ⟨knd, w5, -⟩ := q_arrAt hH (q := p5q) (g := 27) (tp := 0) hp5 rfl (.inl rfl) ha5
  obtain ⟨cod, w6, -⟩ := q_arrAt hH (q := p6q) (g := 28) (tp := 0) hp6 rfl (.inl rfl) ha6
  have eT : S.1 = T := by
    have h8 := hCt.2.2.1
    unfold qsl2 at h8
    rw [d1] at h8
    have h7 := hCt.1
    exact (n_inj (by omega) (by omega) (Value.int.inj (Option.some.inj h8))).symm
  have eQ : S.2.1 = Q := by
    have h8 := hCt.2.2.2.1
    unfold qsl2 at h8
    rw [d1] at h8
    have h7 := hCt.2.1
    exact (n_inj (by omega) (by omega) (Value.int.inj (Option.some.inj h8))).symm
  have hAg : tAg ((nms, wor, par, aft, tnn, knd, cod, T, Q, ti, ru, en9, on, E, gF, gT, bF, bT) : aAS) S := by
    refine ⟨eT, eQ, fun i hi => ?_, fun i hi => ?_, fun i hi => ?_⟩
    · have h8 := hCt.2.2.2.2.1 i hi
      have h7 := hCt.1
      unfold qsl2 at h8
      rw [w0] at h8
      have h8 : (if i < 8 then some (Value.long (nms i)) else none) = some (.long (S.2.2.1 i)) := h8
      rw [if_pos (by omega)] at h8
      exact Value.long.inj (Option.some.inj h8)
    · have h8 := hCt.2.2.2.2.2.1 i hi
      have h7 := hCt.2.1
      unfold qsl2 at h8
      rw [w4] at h8
      have h8 : (if i < 5 then some (Value.long (tnn i)) else none) = some (.long (S.2.2.2.1 i)) := h8
      rw [if_pos (by omega)] at h8
      exact Value.long.inj (Option.some.inj h8)
    · have h8 := hCt.2.2.2.2.2.2 i hi
      have h7 := hCt.1
      unfold qsl2 at h8
      rw [w3] at h8
      have h8 : (if i < 8 then some (Value.int (aft i)) else none) = some (.int (S.2.2.2.2 i)) := h8
      rw [if_pos (by omega)] at h8
      exact Value.int.inj (Option.some.inj h8)
  have hAK : aOK ((nms, wor, par, aft, tnn, knd, cod, T, Q, ti, ru, en9, on, E, gF, gT, bF, bT) : aAS) := ⟨hT, hQ, hE⟩
  have hok0 : ∀ k, k < n0 → kok (f0 k) = true := fun k hk => by rw [hf0 k hk]; exact hok k hk
  have hC9 := c_years γ l x x0 x1 x3 x4 x5 x6 x7 x10 x8 rl x9 mn h hg n0 f0 a0 a1 a2 a3 a4 a5 a6 a7 ((nms, wor, par, aft, tnn, knd, cod, T, Q, ti, ru, en9, on, E, gF, gT, bF, bT) : aAS) fa ab9 t2 tb t4' t5 t6 t7 ln x2 ps py pq l3 l4 l5 yy hn hok0 hAK
  have hnd : va_nd [0, 19, 1, 2, 20, pt, t0, p1q, p2q, t3, t4, p5q, p6q, pp, pyq] = true := va_ndD (l := cD.1) (gs := [0, 19, 1, 2, 20, 21, 22, 23, 24, 25, 26, 27, 28, 37, 38]) (by
    show [cD.1[0]?, cD.1[19]?, cD.1[1]?, cD.1[2]?, cD.1[20]?, cD.1[pt]?, cD.1[t0]?, cD.1[p1q]?, cD.1[p2q]?, cD.1[t3]?, cD.1[t4]?, cD.1[p5q]?, cD.1[p6q]?, cD.1[pp]?, cD.1[pyq]?] = _
    rw [hA.1, hA.2.1, hp1, hp2, hA.2.2.1, hA.2.2.2.1, hp5, hp6, hpp, hpy]
    rfl) (by decide)
  have hce : [wx[0]?, wx[19]?, wx[1]?, wx[2]?, wx[20]?, wx[pt]?, wx[t0]?, wx[p1q]?, wx[p2q]?, wx[t3]?, wx[t4]?, wx[p5q]?, wx[p6q]?, wx[pp]?, wx[pyq]?] = ([(x, .inr (10, [.ref x0, .ref x1, .ref x2, .ref x3, .ref x4, .ref x5, .ref x6, .ref x7, .ref x8, .ref x9, .ref x10])), (x8, .inr (5, [.ref h, .ref rl, .ref ab9, .int mn, .int fa])), (h, .inr (8, [.ref hg, .int (nI n0), .int t2, .int tb, .int t4', .int t5, .long t6, .ref t7])), (hg, .inl (γ.2.1 2, 1000, .inl f0)), (rl, .inl (γ.2.1 0, 40, .inl ln)), (x9, .inr (0, [.ref a0, .ref a1, .ref a2, .ref a3, .ref a4, .ref a5, .ref a6, .ref a7, .int (nI T), .int (nI Q), .int ti, .int ru, .int en9, .int on, .int (nI E), .int gF, .int gT, .int bF, .int bT])), (a0, .inl (γ.2.1 1, 8, .inr (.inl nms))), (a1, .inl (γ.2.1 0, 8, .inl wor)), (a2, .inl (γ.2.1 0, 8, .inl par)), (a3, .inl (γ.2.1 0, 8, .inl aft)), (a4, .inl (γ.2.1 1, 5, .inr (.inl tnn))), (a5, .inl (γ.2.1 0, 5, .inl knd)), (a6, .inl (γ.2.1 0, 1000, .inl cod)), (x2, .inr (3, [.ref ps, .ref py, .ref pq, .int l3, .int l4, .int l5])), (py, .inl (γ.2.1 0, 40, .inl yy))] : va_W).map some := by
    rw [h0, r1, k1, s1, s20, d1, w0, w1, w2, w3, w4, w5, w6, g1, w38]
    rfl
  obtain ⟨y9, hy9, hs9⟩ := cs_180 γ l
  cases hy9
  refine k_imp (k_and (k_wide (f2 := 5) (l2 := 128) (hs9 ax wx [.ref x] ⟨hH, trivial, ⟨v_ref rfl hax, trivial⟩, fun f hf => (by cases hf), fun f hf => (by cases hf)⟩) (by decide) (by decide)) hC9 ⟨by decide, by decide, by decide, by decide⟩ [0, 19, 1, 2, 20, pt, t0, p1q, p2q, t3, t4, p5q, p6q, pp, pyq] hnd hce) (fun r w1 hq => ?_)
  obtain ⟨hq0, H, w2, ⟨q5, -⟩, -, -⟩ := hq
  exact ⟨⟨_, q5, f0, _, _, _, _, _, _, hf0, hAK, hAg, rfl⟩, hq0.1, hq0.2.2.1, q_post0 (q := 1) (k := 1) (by decide +kernel) hq0⟩
/-! years on the typed worlds: the model -/
set_option maxHeartbeats 4000000 in
set_option maxRecDepth 100000 in
theorem l_yearsM (γ : kΓ) (l : Launch) {f : Nat → Int32} {n : Nat} (hn : n ≤ 1000) {am : List Nat} {wm : va_W} {z : Nat} {S S' : tS} (hH : qH mD γ am (fun _ _ => False) wm) (hMx : mX wm) (ham : am[0]? = some z) (hXM : XM f n wm) (hT : mTo wm S') (hTr : tR S S') : kM γ l yX12_years cX12_years 1 (some .int) ({ frames := 4, cells := 0, slots := 0, locals := 103 } : Room) [.ref z] wm (fun r w1 => (∃ v : Int32, r = some (.int v) ∧ yM f n S' v) ∧ qH mD γ am (fun _ _ => False) w1 ∧ mX w1 ∧ qK mD mn_528.2.2.2.2.2 wm w1 ∧ qsl2 w1 0 1 = some (.int 0)) := by
  obtain ⟨n0, n1, z2, n3, n4, n5, n6, n7, n8, n9, z10, z11, z12, z13, z14, z15, z16, z17, z18, z19, n20, n21, z22, z23, z24, z25, z26, z27, z28, z29, z30, z31, z32, z33, n34, n35, z36, z37, z38, z39, z40, z41, z42, z43, z44, z45, z46, z47, z48, n49, n50, n51, n52, n53, n54, z55, z56, n57, n58, z59, z60, z61, n62, n63, wr, hwm⟩ := m_z64 hH ham
  have h0 : wm[0]? = some (z, .inr (11, [.int n0, .int n1, .ref z2, .int n3, .int n4, .int n5, .int n6, .long n7, .int n8, .int n9, .ref z10, .ref z11, .ref z12, .ref z13, .ref z14, .ref z15, .ref z16, .ref z17, .ref z18, .ref z19, .int n20, .int n21, .ref z22, .ref z23, .ref z24, .ref z25, .ref z26, .ref z27, .ref z28, .ref z29, .ref z30, .ref z31, .ref z32, .ref z33, .int n34, .long n35, .ref z36, .ref z37, .ref z38, .ref z39, .ref z40, .ref z41, .ref z42, .ref z43, .ref z44, .ref z45, .ref z46, .ref z47, .ref z48, .int n49, .int n50, .int n51, .int n52, .int n53, .int n54, .ref z55, .ref z56, .int n57, .int n58, .ref z59, .ref z60, .ref z61, .int n62, .long n63])) := by rw [hwm]; rfl
  obtain ⟨fs0, f0, f1, f2⟩ := q_objAt hH (q := 0) (g := 0) (ci := 11) rfl rfl ham
  rw [h0] at f0
  cases f0
  obtain ⟨v, e, b9⟩ := f2 2 (by decide)
  cases e
  obtain ⟨z9, e, hz2⟩ := q_sg2 mDok (g := 1) (by decide) b9
  cases e
  obtain ⟨g0, w2, -⟩ := q_arrAt hH (q := 1) (g := 1) (tp := 0) rfl rfl (.inl rfl) hz2
  obtain ⟨v, e, b9⟩ := f2 10 (by decide)
  cases e
  obtain ⟨z9, e, hz10⟩ := q_sg2 mDok (g := 2) (by decide) b9
  cases e
  obtain ⟨c_abbey, w10, -⟩ := q_arrAt hH (q := 2) (g := 2) (tp := 0) rfl rfl (.inl rfl) hz10
  obtain ⟨v, e, b9⟩ := f2 11 (by decide)
  cases e
  obtain ⟨z9, e, hz11⟩ := q_sg2 mDok (g := 3) (by decide) b9
  cases e
  obtain ⟨c_thoughtName, w11⟩ := q_arrLp hH (q := 3) (g := 3) rfl rfl hz11
  obtain ⟨v, e, b9⟩ := f2 12 (by decide)
  cases e
  obtain ⟨z9, e, hz12⟩ := q_sg2 mDok (g := 4) (by decide) b9
  cases e
  obtain ⟨c_tenantName, w12⟩ := q_arrLp hH (q := 4) (g := 4) rfl rfl hz12
  obtain ⟨v, e, b9⟩ := f2 13 (by decide)
  cases e
  obtain ⟨z9, e, hz13⟩ := q_sg2 mDok (g := 5) (by decide) b9
  cases e
  obtain ⟨c_worthOf, w13, -⟩ := q_arrAt hH (q := 5) (g := 5) (tp := 0) rfl rfl (.inl rfl) hz13
  obtain ⟨v, e, b9⟩ := f2 14 (by decide)
  cases e
  obtain ⟨z9, e, hz14⟩ := q_sg2 mDok (g := 6) (by decide) b9
  cases e
  obtain ⟨c_part, w14, -⟩ := q_arrAt hH (q := 6) (g := 6) (tp := 0) rfl rfl (.inl rfl) hz14
  obtain ⟨v, e, b9⟩ := f2 15 (by decide)
  cases e
  obtain ⟨z9, e, hz15⟩ := q_sg2 mDok (g := 7) (by decide) b9
  cases e
  obtain ⟨c_behind, w15, -⟩ := q_arrAt hH (q := 7) (g := 7) (tp := 0) rfl rfl (.inl rfl) hz15
  obtain ⟨v, e, b9⟩ := f2 16 (by decide)
  cases e
  obtain ⟨z9, e, hz16⟩ := q_sg2 mDok (g := 8) (by decide) b9
  cases e
  obtain ⟨c_kind, w16, -⟩ := q_arrAt hH (q := 8) (g := 8) (tp := 0) rfl rfl (.inl rfl) hz16
  obtain ⟨v, e, b9⟩ := f2 17 (by decide)
  cases e
  obtain ⟨z9, e, hz17⟩ := q_sg2 mDok (g := 9) (by decide) b9
  cases e
  obtain ⟨c_lineFrom, w17, -⟩ := q_arrAt hH (q := 9) (g := 9) (tp := 0) rfl rfl (.inl rfl) hz17
  obtain ⟨v, e, b9⟩ := f2 18 (by decide)
  cases e
  obtain ⟨z9, e, hz18⟩ := q_sg2 mDok (g := 10) (by decide) b9
  cases e
  obtain ⟨c_lineTo, w18, -⟩ := q_arrAt hH (q := 10) (g := 10) (tp := 0) rfl rfl (.inl rfl) hz18
  obtain ⟨v, e, b9⟩ := f2 19 (by decide)
  cases e
  obtain ⟨z9, e, hz19⟩ := q_sg2 mDok (g := 11) (by decide) b9
  cases e
  obtain ⟨c_codes, w19, -⟩ := q_arrAt hH (q := 11) (g := 11) (tp := 0) rfl rfl (.inl rfl) hz19
  obtain ⟨v, e, b9⟩ := f2 22 (by decide)
  cases e
  obtain ⟨z9, e, hz22⟩ := q_sg2 mDok (g := 12) (by decide) b9
  cases e
  obtain ⟨c_opened, w22, -⟩ := q_arrAt hH (q := 12) (g := 12) (tp := 0) rfl rfl (.inl rfl) hz22
  obtain ⟨v, e, b9⟩ := f2 23 (by decide)
  cases e
  obtain ⟨z9, e, hz23⟩ := q_sg2 mDok (g := 13) (by decide) b9
  cases e
  obtain ⟨c_compared, w23, -⟩ := q_arrAt hH (q := 13) (g := 13) (tp := 3) rfl rfl (.inr (.inr rfl)) hz23
  obtain ⟨v, e, b9⟩ := f2 36 (by decide)
  cases e
  obtain ⟨z9, e, hz36⟩ := q_sg2 mDok (g := 24) (by decide) b9
  cases e
  obtain ⟨c_lines, w36, -⟩ := q_arrAt hH (q := 24) (g := 24) (tp := 0) rfl rfl (.inl rfl) hz36
  obtain ⟨v, e, b9⟩ := f2 37 (by decide)
  cases e
  obtain ⟨z9, e, hz37⟩ := q_sg2 mDok (g := 25) (by decide) b9
  cases e
  obtain ⟨c_lineWhat, w37, -⟩ := q_arrAt hH (q := 25) (g := 25) (tp := 0) rfl rfl (.inl rfl) hz37
  obtain ⟨v, e, b9⟩ := f2 38 (by decide)
  cases e
  obtain ⟨z9, e, hz38⟩ := q_sg2 mDok (g := 26) (by decide) b9
  cases e
  obtain ⟨c_lineA, w38, -⟩ := q_arrAt hH (q := 26) (g := 26) (tp := 0) rfl rfl (.inl rfl) hz38
  obtain ⟨v, e, b9⟩ := f2 39 (by decide)
  cases e
  obtain ⟨z9, e, hz39⟩ := q_sg2 mDok (g := 27) (by decide) b9
  cases e
  obtain ⟨c_lineB, w39, -⟩ := q_arrAt hH (q := 27) (g := 27) (tp := 0) rfl rfl (.inl rfl) hz39
  obtain ⟨v, e, b9⟩ := f2 20 (by decide)
  cases e
  obtain ⟨c9, e, hc9⟩ := b9.1 rfl
  cases e
  obtain ⟨cd, ecd⟩ : ∃ cd : Nat, n20 = nI cd := ⟨_, cl_nI hc9.1⟩
  subst ecd
  have e1 : n1 = nI n := by
    have h9 := hXM.1
    unfold qsl2 at h9
    rw [h0] at h9
    exact Value.int.inj (Option.some.inj h9)
  subst e1
  have hfg : ∀ k, k < n → f k = g0 k := fun k hk => by
    have h9 := hXM.2 k hk
    unfold qsl2 at h9
    rw [w2] at h9
    have h9 : (if k < 1000 then some (Value.int (g0 k)) else none) = some (Value.int (f k)) := h9
    rw [if_pos (by omega)] at h9
    exact (Value.int.inj (Option.some.inj h9)).symm
  have hAg : bAg ((c_abbey, c_thoughtName, c_tenantName, c_worthOf, c_part, c_behind, c_kind, c_lineFrom, c_lineTo, c_codes, c_opened, c_compared) : mAS) S' := by
    refine ⟨?_, ?_, fun i hi => ?_, fun i hi => ?_, fun i hi => ?_⟩
    · have h8 := hT.2.2.1
      unfold qsl2 at h8
      rw [w10] at h8
      exact Value.int.inj (Option.some.inj h8)
    · have h8 := hT.2.2.2.1
      unfold qsl2 at h8
      rw [w10] at h8
      exact Value.int.inj (Option.some.inj h8)
    · have h8 := hT.2.2.2.2.1 i hi
      have h7 := hT.1
      unfold qsl2 at h8
      rw [w11] at h8
      have h8 : (if i < 16 then some (Value.long (c_thoughtName i)) else none) = some (.long (S'.2.2.1 i)) := h8
      rw [if_pos (by omega)] at h8
      exact Value.long.inj (Option.some.inj h8)
    · have h8 := hT.2.2.2.2.2.1 i hi
      have h7 := hT.2.1
      unfold qsl2 at h8
      rw [w12] at h8
      have h8 : (if i < 10 then some (Value.long (c_tenantName i)) else none) = some (.long (S'.2.2.2.1 i)) := h8
      rw [if_pos (by omega)] at h8
      exact Value.long.inj (Option.some.inj h8)
    · have h8 := hT.2.2.2.2.2.2 i hi
      have h7 := hT.1
      unfold qsl2 at h8
      rw [w15] at h8
      have h8 : (if i < 16 then some (Value.int (c_behind i)) else none) = some (.int (S'.2.2.2.2 i)) := h8
      rw [if_pos (by omega)] at h8
      exact Value.int.inj (Option.some.inj h8)
  have hM0 : mO0 ((c_abbey, c_thoughtName, c_tenantName, c_worthOf, c_part, c_behind, c_kind, c_lineFrom, c_lineTo, c_codes, c_opened, c_compared) : mAS) := by
    obtain ⟨b1, b2, -⟩ := hAg
    have h1 := hT.1
    have h2 := hT.2.1
    unfold mO0
    rw [b1, b2, nI_toInt (by omega), nI_toInt (by omega)]
    omega
  obtain ⟨res, hres⟩ := y_res (g := g0) (n := n) (S := S) (S' := S') (b := ((c_abbey, c_thoughtName, c_tenantName, c_worthOf, c_part, c_behind, c_kind, c_lineFrom, c_lineTo, c_codes, c_opened, c_compared))) hn ⟨by rw [hTr.1]; exact hT.1, by rw [hTr.2.1]; exact hT.2.1⟩ hTr hAg (w0 := n9) (w1 := n34) (w2 := n35) (w3 := n21) (cd := cd) (li := c_lines) (lw := c_lineWhat) (la := c_lineA) (lb := c_lineB)
  have hC9 := c_m_years γ l z z2 z10 z11 z12 z13 z14 z15 z16 z17 z18 z19 z22 z23 z24 z25 z26 z27 z28 z29 z30 z31 z32 z33 z36 z37 z38 z39 z40 z41 z42 z43 z44 z45 z46 z47 z48 z55 z56 z59 z60 z61 n0 n3 n4 n5 n6 n7 n8 n9 n21 n34 n35 n49 n50 n51 n52 n53 n54 n57 n58 n62 n63 n cd g0 ((c_abbey, c_thoughtName, c_tenantName, c_worthOf, c_part, c_behind, c_kind, c_lineFrom, c_lineTo, c_codes, c_opened, c_compared) : mAS) c_lines c_lineWhat c_lineA c_lineB res hn hM0 hres
  have hce : [wm[0]?, wm[1]?, wm[2]?, wm[3]?, wm[4]?, wm[5]?, wm[6]?, wm[7]?, wm[8]?, wm[9]?, wm[10]?, wm[11]?, wm[12]?, wm[13]?, wm[24]?, wm[25]?, wm[26]?, wm[27]?] = ([(z, .inr (11, [.int n0, .int (nI n), .ref z2, .int n3, .int n4, .int n5, .int n6, .long n7, .int n8, .int n9, .ref z10, .ref z11, .ref z12, .ref z13, .ref z14, .ref z15, .ref z16, .ref z17, .ref z18, .ref z19, .int (nI cd), .int n21, .ref z22, .ref z23, .ref z24, .ref z25, .ref z26, .ref z27, .ref z28, .ref z29, .ref z30, .ref z31, .ref z32, .ref z33, .int n34, .long n35, .ref z36, .ref z37, .ref z38, .ref z39, .ref z40, .ref z41, .ref z42, .ref z43, .ref z44, .ref z45, .ref z46, .ref z47, .ref z48, .int n49, .int n50, .int n51, .int n52, .int n53, .int n54, .ref z55, .ref z56, .int n57, .int n58, .ref z59, .ref z60, .ref z61, .int n62, .long n63])), (z2, .inl (γ.2.1 0, 1000, .inl g0)), (z10, .inl (γ.2.1 0, 10, .inl c_abbey)), (z11, .inl (γ.2.1 1, 16, .inr (.inl c_thoughtName))), (z12, .inl (γ.2.1 1, 10, .inr (.inl c_tenantName))), (z13, .inl (γ.2.1 0, 16, .inl c_worthOf)), (z14, .inl (γ.2.1 0, 16, .inl c_part)), (z15, .inl (γ.2.1 0, 16, .inl c_behind)), (z16, .inl (γ.2.1 0, 10, .inl c_kind)), (z17, .inl (γ.2.1 0, 4, .inl c_lineFrom)), (z18, .inl (γ.2.1 0, 4, .inl c_lineTo)), (z19, .inl (γ.2.1 0, 2000, .inl c_codes)), (z22, .inl (γ.2.1 0, 7, .inl c_opened)), (z23, .inl (γ.2.1 3, 7, .inl c_compared)), (z36, .inl (γ.2.1 0, 6, .inl c_lines)), (z37, .inl (γ.2.1 0, 240, .inl c_lineWhat)), (z38, .inl (γ.2.1 0, 240, .inl c_lineA)), (z39, .inl (γ.2.1 0, 240, .inl c_lineB))] : va_W).map some := by
    rw [h0, w2, w10, w11, w12, w13, w14, w15, w16, w17, w18, w19, w22, w23, w36, w37, w38, w39]
    rfl
  obtain ⟨y9, hy9, hs9⟩ := mx_528 γ l
  cases hy9
  refine k_imp (k_and (k_wide (f2 := 4) (l2 := 103) (hs9 am wm [.ref z] ⟨hH, hMx, ⟨v_ref rfl ham, trivial⟩, fun f hf => (by cases hf), fun f hf => (by cases hf)⟩) (by decide) (by decide)) hC9 ⟨by decide, by decide, by decide, by decide⟩ [0, 1, 2, 3, 4, 5, 6, 7, 8, 9, 10, 11, 12, 13, 24, 25, 26, 27] rfl hce) (fun r w1 hq => ?_)
  obtain ⟨hq0, H, w2, ⟨q5, -⟩, -, -⟩ := hq
  exact ⟨⟨_, q5, g0, _, _, _, _, _, _, _, _, _, _, _, hfg, hAg, hres, rfl⟩, hq0.1, hq0.2.1, hq0.2.2.1, q_post0 (q := 0) (k := 1) (by decide +kernel) hq0⟩

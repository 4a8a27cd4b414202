/-! the class: readAbbey on the typed world -/
def XT (f : Nat → Int32) (n : Nat) (w : va_W) : Prop := qsl2 w 1 1 = some (.int (nI n)) ∧ ∀ k, k < n → qsl2 w 2 k = some (.int (f k))
theorem xt_ok {f : Nat → Int32} {n : Nat} (adr : List Nat) (ws : va_W) (q g a : Nat) (c : va_E) (hg : cD.1[q]? = some g) (hx : ¬ g ∈ [1, 2]) (_ : ws.map Prod.fst = adr) (_ : adr[q]? = some a) (h : XT f n ws) : XT f n (ws.set q (a, c)) := by
  have h1 : ¬ q = 1 := fun e => hx (by subst e; cases hg; decide)
  have h2 : ¬ q = 2 := fun e => hx (by subst e; cases hg; decide)
  refine ⟨?_, fun k hk => ?_⟩
  · have := h.1
    unfold qsl2 at this ⊢
    rw [List.getElem?_set_ne h1]
    exact this
  · have := h.2 k hk
    unfold qsl2 at this ⊢
    rw [List.getElem?_set_ne h2]
    exact this
def cnW : qCon := ((cn_100.1.1, 41, 1000), cn_100.2)
set_option maxHeartbeats 4000000 in
set_option maxRecDepth 100000 in
theorem ra_class (γ : kΓ) (l : Launch) {f : Nat → Int32} {n : Nat} (hn : n ≤ 1000) (hok : ∀ k, k < n → kok (f k) = true) : qSem2 γ l cD (XT f n) (fun r _ => r = some (.int (fvA f n))) cMT cnW := by
  obtain ⟨y9, hy9, hs9⟩ := cs_100 γ l
  cases hy9
  refine ⟨_, rfl, fun adr ws av hp => ?_⟩
  obtain ⟨p1, p2, p3, p4, p5⟩ := hp
  match av, p3 with
  | [v0, v1], ⟨hv0, hv1, hv2⟩ =>
    obtain ⟨rr, rfl, hrr⟩ := q_sg2 cDok (g := 19) (by decide) hv0
    obtain ⟨pd, ab, rfl, hpd, hab⟩ := q_refp (g := 21) (by decide) hv1
    obtain ⟨fr, r1, r2, r3⟩ := q_objAt p1 (q := 19) (g := 19) (ci := 5) rfl rfl hrr
    obtain ⟨v, u0, b0⟩ := r3 0 (by decide)
    obtain ⟨h, rfl, hh⟩ := q_sg2 cDok (g := 1) (by decide) b0
    obtain ⟨v, u1, b1⟩ := r3 1 (by decide)
    obtain ⟨rl, rfl⟩ := q_any (g := 20) b1
    obtain ⟨v, u2, b2⟩ := r3 2 (by decide)
    obtain ⟨ab9, rfl⟩ := q_any (g := 21) b2
    obtain ⟨v, u3, b3⟩ := r3 3 (by decide)
    obtain ⟨mn, rfl, -⟩ := b3.1 rfl
    obtain ⟨v, u4, b4⟩ := r3 4 (by decide)
    obtain ⟨fa, rfl, -⟩ := b4.1 rfl
    have e9 : fr = [.ref h, .ref rl, .ref ab9, .int mn, .int fa] := by
      apply List.ext_getElem?
      intro k
      by_cases hk : k < 5
      · have : k = 0 ∨ k = 1 ∨ k = 2 ∨ k = 3 ∨ k = 4 := by omega
        rcases this with rfl | rfl | rfl | rfl | rfl
        · exact u0
        · exact u1
        · exact u2
        · exact u3
        · exact u4
      · rw [List.getElem?_eq_none (by omega), List.getElem?_eq_none (by show 5 ≤ k; omega)]
    subst e9
    clear u0 u1 u2 u3 u4 b0 b1 b2 b3 b4 r2 r3
    obtain ⟨fs, k1, k2, k3⟩ := q_objAt p1 (q := 1) (g := 1) (ci := 8) rfl rfl hh
    obtain ⟨hg, t7, n0, t2, tb, t4, t5, t6, hn0, hxg, rfl⟩ := c_tok k2 k3
    have en : n0 = n := by
      have h9 := p2.1
      unfold qsl2 at h9
      rw [k1] at h9
      exact n_inj hn0 hn (Value.int.inj (Option.some.inj h9))
    subst en
    obtain ⟨f0, s1, s2⟩ := q_arrAt p1 (q := 2) (g := 2) (tp := 2) rfl rfl (.inr (.inl rfl)) hxg
    have hf0 : ∀ k, k < n0 → f0 k = f k := fun k hk => by
      have h9 := p2.2 k hk
      unfold qsl2 at h9
      rw [s1] at h9
      have h9 : (if k < 1000 then some (Value.int (f0 k)) else none) = some (Value.int (f k)) := h9
      rw [if_pos (by omega)] at h9
      exact Value.int.inj (Option.some.inj h9)
    obtain ⟨fd, d1, d2, d3⟩ := q_objAt p1 (q := pd) (g := 21) (ci := 0) hpd rfl hab
    obtain ⟨v, u0, b9⟩ := d3 0 (by decide)
    obtain ⟨p0q, a0, rfl, hp0, ha0⟩ := q_refp (g := 22) (by decide) b9
    obtain ⟨v, u1, b9⟩ := d3 1 (by decide)
    obtain ⟨p1q, a1, rfl, hp1, ha1⟩ := q_refp (g := 23) (by decide) b9
    obtain ⟨v, u2, b9⟩ := d3 2 (by decide)
    obtain ⟨p2q, a2, rfl, hp2, ha2⟩ := q_refp (g := 24) (by decide) b9
    obtain ⟨v, u3, b9⟩ := d3 3 (by decide)
    obtain ⟨p3q, a3, rfl, hp3, ha3⟩ := q_refp (g := 25) (by decide) b9
    obtain ⟨v, u4, b9⟩ := d3 4 (by decide)
    obtain ⟨p4q, a4, rfl, hp4, ha4⟩ := q_refp (g := 26) (by decide) b9
    obtain ⟨v, u5, b9⟩ := d3 5 (by decide)
    obtain ⟨p5q, a5, rfl, hp5, ha5⟩ := q_refp (g := 27) (by decide) b9
    obtain ⟨v, u6, b9⟩ := d3 6 (by decide)
    obtain ⟨p6q, a6, rfl, hp6, ha6⟩ := q_refp (g := 28) (by decide) b9
    obtain ⟨v, u7, b9⟩ := d3 7 (by decide)
    obtain ⟨p7q, a7, rfl, hp7, ha7⟩ := q_refp (g := 29) (by decide) b9
    obtain ⟨v, u8, b9⟩ := d3 8 (by decide)
    obtain ⟨w9, rfl, c9⟩ := b9.1 rfl
    obtain ⟨T, hT, rfl⟩ := n_ofk (k := 8) c9 (by decide)
    obtain ⟨v, u9, b9⟩ := d3 9 (by decide)
    obtain ⟨w9, rfl, c9⟩ := b9.1 rfl
    obtain ⟨Q, hQ, rfl⟩ := n_ofk (k := 5) c9 (by decide)
    obtain ⟨v, u10, b9⟩ := d3 10 (by decide)
    obtain ⟨ti, rfl, -⟩ := b9.1 rfl
    obtain ⟨v, u11, b9⟩ := d3 11 (by decide)
    obtain ⟨ru, rfl, -⟩ := b9.1 rfl
    obtain ⟨v, u12, b9⟩ := d3 12 (by decide)
    obtain ⟨en9, rfl, -⟩ := b9.1 rfl
    obtain ⟨v, u13, b9⟩ := d3 13 (by decide)
    obtain ⟨on, rfl, -⟩ := b9.1 rfl
    obtain ⟨v, u14, b9⟩ := d3 14 (by decide)
    obtain ⟨w9, rfl, c9⟩ := b9.1 rfl
    obtain ⟨E, hE, rfl⟩ := n_ofk (k := 1000) c9 (by decide)
    obtain ⟨v, u15, b9⟩ := d3 15 (by decide)
    obtain ⟨gF, rfl, -⟩ := b9.1 rfl
    obtain ⟨v, u16, b9⟩ := d3 16 (by decide)
    obtain ⟨gT, rfl, -⟩ := b9.1 rfl
    obtain ⟨v, u17, b9⟩ := d3 17 (by decide)
    obtain ⟨bF, rfl, -⟩ := b9.1 rfl
    obtain ⟨v, u18, b9⟩ := d3 18 (by decide)
    obtain ⟨bT, rfl, -⟩ := b9.1 rfl
    have e9 : fd = [.ref a0, .ref a1, .ref a2, .ref a3, .ref a4, .ref a5, .ref a6, .ref a7, .int (nI T), .int (nI Q), .int ti, .int ru, .int en9, .int on, .int (nI E), .int gF, .int gT, .int bF, .int bT] := by
      apply List.ext_getElem?
      intro k
      by_cases hk : k < 19
      · have : k = 0 ∨ k = 1 ∨ k = 2 ∨ k = 3 ∨ k = 4 ∨ k = 5 ∨ k = 6 ∨ k = 7 ∨ k = 8 ∨ k = 9 ∨ k = 10 ∨ k = 11 ∨ k = 12 ∨ k = 13 ∨ k = 14 ∨ k = 15 ∨ k = 16 ∨ k = 17 ∨ k = 18 := by omega
        rcases this with rfl | rfl | rfl | rfl | rfl | rfl | rfl | rfl | rfl | rfl | rfl | rfl | rfl | rfl | rfl | rfl | rfl | rfl | rfl
        · exact u0
        · exact u1
        · exact u2
        · exact u3
        · exact u4
        · exact u5
        · exact u6
        · exact u7
        · exact u8
        · exact u9
        · exact u10
        · exact u11
        · exact u12
        · exact u13
        · exact u14
        · exact u15
        · exact u16
        · exact u17
        · exact u18
      · rw [List.getElem?_eq_none (by omega), List.getElem?_eq_none (by show 19 ≤ k; omega)]
    subst e9
    clear u0 u1 u2 u3 u4 u5 u6 u7 u8 u9 u10 u11 u12 u13 u14 u15 u16 u17 u18 d2 d3 b9
    obtain ⟨nms, w0⟩ := q_arrLp p1 (q := p0q) (g := 22) hp0 rfl ha0
    obtain ⟨wor, w1, -⟩ := q_arrAt p1 (q := p1q) (g := 23) (tp := 0) hp1 rfl (.inl rfl) ha1
    obtain ⟨par, w2, -⟩ := q_arrAt p1 (q := p2q) (g := 24) (tp := 0) hp2 rfl (.inl rfl) ha2
    obtain ⟨aft, w3, -⟩ := q_arrAt p1 (q := p3q) (g := 25) (tp := 0) hp3 rfl (.inl rfl) ha3
    obtain ⟨tnn, w4⟩ := q_arrLp p1 (q := p4q) (g := 26) hp4 rfl ha4
    obtain ⟨knd, w5, -⟩ := q_arrAt p1 (q := p5q) (g := 27) (tp := 0) hp5 rfl (.inl rfl) ha5
    obtain ⟨cod, w6, -⟩ := q_arrAt p1 (q := p6q) (g := 28) (tp := 0) hp6 rfl (.inl rfl) ha6
    have hA : aOK ((nms, wor, par, aft, tnn, knd, cod, T, Q, ti, ru, en9, on, E, gF, gT, bF, bT) : aAS) := ⟨hT, hQ, hE⟩
    have hok0 : ∀ k, k < n0 → kok (f0 k) = true := fun k hk => by rw [hf0 k hk]; exact hok k hk
    have hC9 := c_readAbbey γ l rr rl ab mn h hg n0 f0 a0 a1 a2 a3 a4 a5 a6 a7 ((nms, wor, par, aft, tnn, knd, cod, T, Q, ti, ru, en9, on, E, gF, gT, bF, bT) : aAS) fa ab9 t2 tb t4 t5 t6 t7 hn hok0 hA
    have hs := k_wide (f2 := 41) (l2 := 1000) (hs9 adr ws [.ref rr, .ref ab] ⟨p1, trivial, ⟨hv0, hv1, hv2⟩, p4, p5⟩) (by decide) (by decide)
    have hnd : va_nd [19, 1, 2, pd, p0q, p1q, p2q, p3q, p4q, p5q, p6q] = true := va_ndD (l := cD.1) (gs := [19, 1, 2, 21, 22, 23, 24, 25, 26, 27, 28]) (by
      show [cD.1[19]?, cD.1[1]?, cD.1[2]?, cD.1[pd]?, cD.1[p0q]?, cD.1[p1q]?, cD.1[p2q]?, cD.1[p3q]?, cD.1[p4q]?, cD.1[p5q]?, cD.1[p6q]?] = _
      rw [hpd, hp0, hp1, hp2, hp3, hp4, hp5, hp6]
      rfl) (by decide)
    have hce : [ws[19]?, ws[1]?, ws[2]?, ws[pd]?, ws[p0q]?, ws[p1q]?, ws[p2q]?, ws[p3q]?, ws[p4q]?, ws[p5q]?, ws[p6q]?] = ([(rr, .inr (5, [.ref h, .ref rl, .ref ab9, .int mn, .int fa])), (h, .inr (8, [.ref hg, .int (nI n0), .int t2, .int tb, .int t4, .int t5, .long t6, .ref t7])), (hg, .inl (γ.2.1 2, 1000, .inl f0)), (ab, .inr (0, [.ref a0, .ref a1, .ref a2, .ref a3, .ref a4, .ref a5, .ref a6, .ref a7, .int (nI T), .int (nI Q), .int ti, .int ru, .int en9, .int on, .int (nI E), .int gF, .int gT, .int bF, .int bT])), (a0, .inl (γ.2.1 1, 8, .inr (.inl nms))), (a1, .inl (γ.2.1 0, 8, .inl wor)), (a2, .inl (γ.2.1 0, 8, .inl par)), (a3, .inl (γ.2.1 0, 8, .inl aft)), (a4, .inl (γ.2.1 1, 5, .inr (.inl tnn))), (a5, .inl (γ.2.1 0, 5, .inl knd)), (a6, .inl (γ.2.1 0, 1000, .inl cod))] : va_W).map some := by
      rw [r1, k1, s1, d1, w0, w1, w2, w3, w4, w5, w6]
      rfl
    refine k_imp (k_and hs hC9 ⟨by decide, by decide, by decide, by decide⟩ [19, 1, 2, pd, p0q, p1q, p2q, p3q, p4q, p5q, p6q] hnd hce) (fun r w1 hq => ?_)
    obtain ⟨⟨q1, -, q3, q4⟩, H, w2, ⟨q5, -⟩, -, -⟩ := hq
    refine ⟨q1, ?_, q3, q4⟩
    show r = some (.int (fvA f n0))
    rw [q5, fvA_c hf0 hn]
theorem dX11_abbey_0 : decode cX11_abbey 0 = .ok (.aload_n 0, 1) := by decide +kernel
theorem dX11_abbey_1 : decode cX11_abbey 1 = .ok (.getfield 77, 3) := by decide +kernel
theorem dX11_abbey_4 : decode cX11_abbey 4 = .ok (.aload_n 0, 1) := by decide +kernel
theorem dX11_abbey_5 : decode cX11_abbey 5 = .ok (.getfield 69, 3) := by decide +kernel
theorem dX11_abbey_8 : decode cX11_abbey 8 = .ok (.invokevirtual 89, 3) := by decide +kernel
theorem dX11_abbey_11 : decode cX11_abbey 11 = .ok (.istore_n 1, 1) := by decide +kernel
theorem dX11_abbey_12 : decode cX11_abbey 12 = .ok (.iload_n 1, 1) := by decide +kernel
theorem dX11_abbey_13 : decode cX11_abbey 13 = .ok (.ifCond .ne 25, 3) := by decide +kernel
theorem dX11_abbey_16 : decode cX11_abbey 16 = .ok (.aload_n 0, 1) := by decide +kernel
theorem dX11_abbey_17 : decode cX11_abbey 17 = .ok (.getfield 65, 3) := by decide +kernel
theorem dX11_abbey_20 : decode cX11_abbey 20 = .ok (.astore_n 2, 1) := by decide +kernel
theorem dX11_abbey_21 : decode cX11_abbey 21 = .ok (.aload_n 0, 1) := by decide +kernel
theorem dX11_abbey_22 : decode cX11_abbey 22 = .ok (.aload_n 0, 1) := by decide +kernel
theorem dX11_abbey_23 : decode cX11_abbey 23 = .ok (.getfield 69, 3) := by decide +kernel
theorem dX11_abbey_26 : decode cX11_abbey 26 = .ok (.putfield 65, 3) := by decide +kernel
theorem dX11_abbey_29 : decode cX11_abbey 29 = .ok (.aload_n 0, 1) := by decide +kernel
theorem dX11_abbey_30 : decode cX11_abbey 30 = .ok (.aload_n 2, 1) := by decide +kernel
theorem dX11_abbey_31 : decode cX11_abbey 31 = .ok (.putfield 69, 3) := by decide +kernel
theorem dX11_abbey_34 : decode cX11_abbey 34 = .ok (.aload_n 0, 1) := by decide +kernel
theorem dX11_abbey_35 : decode cX11_abbey 35 = .ok (.invokevirtual 93, 3) := by decide +kernel
theorem dX11_abbey_38 : decode cX11_abbey 38 = .ok (.iload_n 1, 1) := by decide +kernel
theorem dX11_abbey_39 : decode cX11_abbey 39 = .ok (.ireturn, 1) := by decide +kernel
/-! the class: abbey -/
def xM : qMods := [(0, 9, 10), (1, 1, 7), (3, 2, 2), (19, 2, 2), (19, 4, 4), (21, 8, 18), (22, 0, 7), (23, 0, 7), (24, 0, 7), (25, 0, 7), (26, 0, 4), (27, 0, 4), (28, 0, 999), (30, 6, 8), (31, 0, 4), (32, 0, 4), (33, 0, 4), (34, 0, 4), (35, 0, 39), (36, 0, 7), (37, 3, 5)]
def xS0 : AS := (([], [], []), ([(0, (3, 0, 0))], []), ([], [], []))
def xS8 : AS := (([], [], []), ([(0, (3, 0, 0))], [(3, 21, 0), (3, 19, 0)]), ([21], [], []))
def xS11 : AS := (([(0, 16005)], [], []), ([(0, (3, 0, 0))], [(0, 0, 0)]), ([], [], []))
def xS16 : AS := (([], [], []), ([(1, (1, 0, 0)), (0, (3, 0, 0))], []), ([], [], []))
def xS38 : AS := (([], [], []), ([(1, (1, 0, 0))], []), ([], [], []))
theorem x_c1 : qrun cD [] [1, 2] ctb_RX11 cMT [] 60 1200 3 1 (qNo []) [] [] pg_X11_abbey [] [] (qgo cD [] [1, 2] ctb_RX11 cMT [] 60 1200 3 1 (qNo []) [] [] pg_X11_abbey [] [] 0 [] [(8, xS8, (0, []))] 0 none 50) xS0 0 = true := by decide +kernel
theorem x_c2 : (match qs_call cD xM [cnW] ctb_RX11.2.1 cMT 60 1200 true xS8 89 8 with
      | some L => 3 == 3 && L.all (fun y => [((11, xS11, (0, [])) : qCut)].any (fun k => k.1 == y.2 && qcchk cD 0 [] 0 none y.1 k))
      | none => false) = true := by decide +kernel
theorem x_c3 : qrun cD xM [] ctb_RX11 cMT [cn_36] 60 1200 3 1 (qNo xM) [] [] pg_X11_abbey [] [] (qgo cD xM [] ctb_RX11 cMT [cn_36] 60 1200 3 1 (qNo xM) [] [] pg_X11_abbey [] [] 0 [] [(38, xS38, (0, []))] 0 none 50) xS16 16 = true := by decide +kernel
set_option maxHeartbeats 4000000 in
set_option maxRecDepth 100000 in
theorem ab_class (γ : kΓ) (l : Launch) {f : Nat → Int32} {n : Nat} (hn : n ≤ 1000) (hok : ∀ k, k < n → kok (f k) = true) {adr : List Nat} {wx : va_W} {x : Nat} (hH : qH cD γ adr (fun _ _ => False) wx) (hax : adr[0]? = some x) (hXT : XT f n wx) : kM γ l yX11_abbey cX11_abbey 3 (some .int) ({ frames := 60, cells := 0, slots := 0, locals := 1200 } : Room) [.ref x] wx (fun r _ => r = some (.int (fvA f n))) := by
  refine k_ofW (by decide) (by show 1 ≤ 3; decide) ?_
  intro p e s m below meth cd A ls hC hr hlocks hname hw hl
  have hx := hC.1
  have hb := hC.2.1
  have hρ0 : qr0 cD adr 0 = some x := by
    unfold qr0
    rw [if_pos (by decide)]
    exact hax
  refine q_seg (c := qNo []) (B := []) (fr := 60) (lc := 1200) (w0 := wx) (av := []) (ea := []) (pa := []) (X := XT f n) (σ := qsl []) (ρ := qr0 cD adr) (lv := lv_args 0 [Value.ref x]) hC (q_Dok cDok) rfl (xt_ok adr) ctk_RX11 q_f0 ⟨Nat.le_refl _, Nat.le_refl _⟩ pk_X11_abbey q_noE q_noR x_c1 ?_ hw hl (q_Nof trivial (fun a b d h => by cases h)) ⟨⟨⟨rfl, .inr (.inr (.inr ⟨rfl, x, rfl, hρ0⟩))⟩, trivial⟩, trivial⟩ (q_Mof hH (fun n k av h => by cases h)) hXT q_K0
  intro k hk
  rw [List.mem_singleton] at hk
  subst hk
  intro σ2 ρ2 lv2 st2 ls2 ws2 H2 locs2 hw2 hl2 hN2 hF2 hM2 hx2 hK2 hσ2
  refine q_segC (ms := xM) (fr := 60) (lc := 1200) (n0 := 0) (n1 := 0) (lk := []) (σ := σ2) (ρ := ρ2) (w0 := ws2) (X := XT f n) (X' := fun r _ => r = some (.int (fvA f n))) (B := [cnW]) (S := xS8) (pc := 8) (cuts := [((11, xS11, (0, [])) : qCut)]) hC (q_Dok cDok) ctk_RX11 (q_f1 (ra_class γ l hn hok) q_f0) ⟨Nat.le_refl _, Nat.le_refl _⟩ pk_X11_abbey (show qat pg_X11_abbey 8 = some (.invokevirtual 89, 3) from rfl) x_c2 ?_ hw2 hl2 hN2 hF2 hM2 hx2 q_K0
  intro k hk
  rw [List.mem_singleton] at hk
  subst hk
  intro σ3 ρ3 lv3 r3 st3 ls3 ws3 H3 locs3 hw3 hl3 hN3 hF3 hM3 hx3 hK3 hσ3
  have hx3 : r3 = some (.int (fvA f n)) := hx3
  subst hx3
  have hst : st3 = [] := by
    have h9 := F2.len hF3.2
    cases st3 with
    | nil => rfl
    | cons a b =>
      have h9 : 1 = (Value.int (fvA f n) :: a :: b).length := h9
      simp only [List.length_cons] at h9
      omega
  subst hst
  have hl0 : lv_has ls3 3 [(0, .ref x)] := by
    match lv3, hF3.1, hl3 with
    | [(j, v)], ⟨⟨e1, e2⟩, _⟩, hl3 =>
      have e1 : 0 = j := e1
      subst e1
      rcases e2 with ⟨t, _⟩ | ⟨t, _⟩ | ⟨t, _⟩ | ⟨_, nn, rfl, hρ⟩
      · exact absurd t (by decide)
      · exact absurd t (by decide)
      · exact absurd t (by decide)
      · have h9 := hM3.1 0 (by decide)
        have hρ : ρ3 0 = some nn := hρ
        rw [h9, hax] at hρ
        cases hρ
        exact hl3
  refine W.eq (g2 := F0 m 11 ls3 [.int (fvA f n)]) rfl ?_
  refine lv_istore_n (lv' := [(1, .int (fvA f n)), (0, .ref x)]) hx hb dX11_abbey_11 rfl hl0 (by decide) rfl (fun ls hl => ?_)
  refine lv_iload_n hx hb dX11_abbey_12 rfl (lv_at hl 0 rfl) ?_
  refine lv_if_ne (tgt := 38) hx hb dX11_abbey_13 (by decide) (fun hne => ?_) (fun heq => ?_)
  · refine lv_iload_n hx hb dX11_abbey_38 rfl (lv_at hl 0 rfl) ?_
    exact k_iret hC hr hlocks hw3 (List.range ws3.length) (q_nd _) (q_all ws3) rfl (Nat.le_refl _) (Nat.le_refl _) dX11_abbey_39
  · refine q_seg (c := qNo xM) (B := [cn_36]) (fr := 60) (lc := 1200) (ea := []) (pa := []) (n0 := 0) (w0 := ws3) (av := []) (X := fun _ => True) (σ := qsl []) (ρ := qr0 cD adr) (lv := [(1, .int (fvA f n)), (0, .ref x)]) hC (q_Dok cDok) rfl (fun _ _ _ _ _ _ _ _ _ _ => trivial) ctk_RX11 (q_f1 (cs_36 γ l) q_f0) ⟨Nat.le_refl _, Nat.le_refl _⟩ pk_X11_abbey q_noE q_noR x_c3 ?_ hw3 hl (q_Nof trivial (fun a b d h => by cases h)) ⟨⟨⟨rfl, .inr (.inl ⟨rfl, _, rfl, by rw [heq]; rfl⟩)⟩, ⟨rfl, .inr (.inr (.inr ⟨rfl, x, rfl, hρ0⟩))⟩, trivial⟩, trivial⟩ (q_Mof (q_H00 hM3 (r := [])) (fun n k av h => by cases h)) trivial q_K0
    intro k hk
    rw [List.mem_singleton] at hk
    subst hk
    intro σ4 ρ4 lv4 st4 ls4 ws4 H4 locs4 hw4 hl4 hN4 hF4 hM4 hx4 hK4 hσ4
    have hst : st4 = [] := by
      have h9 := F2.len hF4.2
      cases st4 with
      | nil => rfl
      | cons a b =>
        have h9 : 0 = (a :: b).length := h9
        simp only [List.length_cons] at h9
        omega
    subst hst
    have hl0 : lv_has ls4 3 [(1, .int (fvA f n))] := by
      match lv4, hF4.1, hl4 with
      | [(j, v)], ⟨⟨e1, e2⟩, _⟩, hl4 =>
        have e1 : 1 = j := e1
        subst e1
        rcases e2 with ⟨t, _⟩ | ⟨_, xx, rfl, hxx⟩ | ⟨t, _⟩ | ⟨t, _⟩
        · exact absurd t (by decide)
        · have e9 : xx = fvA f n := by
            rw [heq]
            apply Int32.toInt_inj.mp
            exact hxx
          subst e9
          exact hl4
        · exact absurd t (by decide)
        · exact absurd t (by decide)
    refine lv_iload_n hx hb dX11_abbey_38 rfl (lv_at hl0 0 rfl) ?_
    exact k_iret hC hr hlocks hw4 (List.range ws4.length) (q_nd _) (q_all ws4) rfl (Nat.le_refl _) (Nat.le_refl _) dX11_abbey_39

theorem c_abL {γ : kΓ} {adr : List Nat} {ws : va_W} {pd ab : Nat} (p1 : qH cD γ adr (fun _ _ => False) ws) (hpd : cD.1[pd]? = some 21) (hab : adr[pd]? = some ab) : ∃ (a0 a1 a2 a3 a4 a5 a6 a7 : Nat) (t8 t9 t10 t11 t12 t13 t14 t15 t16 t17 t18 : Int32), ws[pd]? = some (ab, .inr (0, [.ref a0, .ref a1, .ref a2, .ref a3, .ref a4, .ref a5, .ref a6, .ref a7, .int t8, .int t9, .int t10, .int t11, .int t12, .int t13, .int t14, .int t15, .int t16, .int t17, .int t18])) := by
  obtain ⟨fd, m1, m2, m3⟩ := q_objAt p1 (q := pd) (g := 21) (ci := 0) hpd rfl hab
  obtain ⟨v, u0, b9⟩ := m3 0 (by decide)
  obtain ⟨p0q, a0, rfl, -, -⟩ := q_refp (g := 22) (by decide) b9
  obtain ⟨v, u1, b9⟩ := m3 1 (by decide)
  obtain ⟨p1q, a1, rfl, -, -⟩ := q_refp (g := 23) (by decide) b9
  obtain ⟨v, u2, b9⟩ := m3 2 (by decide)
  obtain ⟨p2q, a2, rfl, -, -⟩ := q_refp (g := 24) (by decide) b9
  obtain ⟨v, u3, b9⟩ := m3 3 (by decide)
  obtain ⟨p3q, a3, rfl, -, -⟩ := q_refp (g := 25) (by decide) b9
  obtain ⟨v, u4, b9⟩ := m3 4 (by decide)
  obtain ⟨p4q, a4, rfl, -, -⟩ := q_refp (g := 26) (by decide) b9
  obtain ⟨v, u5, b9⟩ := m3 5 (by decide)
  obtain ⟨p5q, a5, rfl, -, -⟩ := q_refp (g := 27) (by decide) b9
  obtain ⟨v, u6, b9⟩ := m3 6 (by decide)
  obtain ⟨p6q, a6, rfl, -, -⟩ := q_refp (g := 28) (by decide) b9
  obtain ⟨v, u7, b9⟩ := m3 7 (by decide)
  obtain ⟨p7q, a7, rfl, -, -⟩ := q_refp (g := 29) (by decide) b9
  obtain ⟨v, u8, b9⟩ := m3 8 (by decide)
  obtain ⟨t8, rfl, -⟩ := b9.1 rfl
  obtain ⟨v, u9, b9⟩ := m3 9 (by decide)
  obtain ⟨t9, rfl, -⟩ := b9.1 rfl
  obtain ⟨v, u10, b9⟩ := m3 10 (by decide)
  obtain ⟨t10, rfl, -⟩ := b9.1 rfl
  obtain ⟨v, u11, b9⟩ := m3 11 (by decide)
  obtain ⟨t11, rfl, -⟩ := b9.1 rfl
  obtain ⟨v, u12, b9⟩ := m3 12 (by decide)
  obtain ⟨t12, rfl, -⟩ := b9.1 rfl
  obtain ⟨v, u13, b9⟩ := m3 13 (by decide)
  obtain ⟨t13, rfl, -⟩ := b9.1 rfl
  obtain ⟨v, u14, b9⟩ := m3 14 (by decide)
  obtain ⟨t14, rfl, -⟩ := b9.1 rfl
  obtain ⟨v, u15, b9⟩ := m3 15 (by decide)
  obtain ⟨t15, rfl, -⟩ := b9.1 rfl
  obtain ⟨v, u16, b9⟩ := m3 16 (by decide)
  obtain ⟨t16, rfl, -⟩ := b9.1 rfl
  obtain ⟨v, u17, b9⟩ := m3 17 (by decide)
  obtain ⟨t17, rfl, -⟩ := b9.1 rfl
  obtain ⟨v, u18, b9⟩ := m3 18 (by decide)
  obtain ⟨t18, rfl, -⟩ := b9.1 rfl
  refine ⟨a0, a1, a2, a3, a4, a5, a6, a7, t8, t9, t10, t11, t12, t13, t14, t15, t16, t17, t18, ?_⟩
  rw [m1]
  have e9 : fd = [.ref a0, .ref a1, .ref a2, .ref a3, .ref a4, .ref a5, .ref a6, .ref a7, .int t8, .int t9, .int t10, .int t11, .int t12, .int t13, .int t14, .int t15, .int t16, .int t17, .int t18] := by
    apply List.ext_getElem?
    intro k
    by_cases hk : k < 19
    · have : k = 0 ∨ k = 1 ∨ k = 2 ∨ k = 3 ∨ k = 4 ∨ k = 5 ∨ k = 6 ∨ k = 7 ∨ k = 8 ∨ k = 9 ∨ k = 10 ∨ k = 11 ∨ k = 12 ∨ k = 13 ∨ k = 14 ∨ k = 15 ∨ k = 16 ∨ k = 17 ∨ k = 18 := by omega
      rcases this with rfl | rfl | rfl | rfl | rfl | rfl | rfl | rfl | rfl | rfl | rfl | rfl | rfl | rfl | rfl | rfl | rfl | rfl | rfl
      · exact u0
      · exact u1
      · exact u2
      · exact u3
      · exact u4
      · exact u5
      · exact u6
      · exact u7
      · exact u8
      · exact u9
      · exact u10
      · exact u11
      · exact u12
      · exact u13
      · exact u14
      · exact u15
      · exact u16
      · exact u17
      · exact u18
    · rw [List.getElem?_eq_none (by omega), List.getElem?_eq_none (by show 19 ≤ k; omega)]
  rw [e9]
set_option maxHeartbeats 4000000 in
set_option maxRecDepth 100000 in
theorem gs_class (γ : kΓ) (l : Launch) {ax : List Nat} {wx : va_W} {x G : Nat} {S : tS} {L gd : Nat → Int32} {ge : Nat → Nat → Int32} {th b : Int32} (hb01 : b = 0 ∨ b = 1) (hG8 : G ≤ 8) (hd : gd 0 = nI G) (hH : qH cD γ ax (fun _ _ => False) wx) (hax : ax[0]? = some x) (hT : cTo wx S) (hM : cM wx L gd ge) : kM γ l yX11_guess cX11_guess 3 (some .boolean) ({ frames := 1, cells := 0, slots := 0, locals := 21 } : Room) [.ref x, .int th, .int b] wx (fun r w1 => r = some (.int (gsV S.1 G th)) ∧ qH cD γ ax (fun _ _ => False) w1 ∧ qK cD cn_132.2.2.2.2.2 wx w1 ∧ cM w1 L (gzA S.1 G th (upd gd 0 (nI (G + 1))) gd) (gzA S.1 G th (fun j => if j = 0 then upd (ge 0) G (th * 2 + b) else ge j) ge)) := by
  obtain ⟨pt, t0, t3, t4, pd, d0, d3, d4, hA, hB, hne, h9, h10, hCt⟩ := hT
  obtain ⟨x0, x1, x2, x3, x4, x5, x6, x7, x8, x9, x10, wr, hwx⟩ := c_x11 hH hax
  have h0 : wx[0]? = some (x, .inr (10, [.ref x0, .ref x1, .ref x2, .ref x3, .ref x4, .ref x5, .ref x6, .ref x7, .ref x8, .ref x9, .ref x10])) := by rw [hwx]; rfl
  have hpt : ax[pt]? = some x9 := by
    obtain ⟨a, e1, e2⟩ := h9
    unfold qsl2 at e2
    rw [h0] at e2
    have e2 : some (Value.ref x9) = some (.ref a) := e2
    cases e2
    rw [← hH.1]
    exact e1
  obtain ⟨a0, a1, a2, a3, a4, a5, a6, a7, t8, t9, t10, t11, t12, t13, t14, t15, t16, t17, t18, k1⟩ := c_abL hH hA.1 hpt
  have e8 : t8 = nI S.1 := by
    have h8 := hCt.2.2.1
    unfold qsl2 at h8
    rw [k1] at h8
    exact Value.int.inj (Option.some.inj h8)
  subst e8
  obtain ⟨pp, pg, hP⟩ := hM
  obtain ⟨apa, sta, yra, aga, ypa, lia, gua, laa, fya, fga, hapa, ea, hva, hsa, hypa, eya, ega, hlia, hgua⟩ := c_page hH (hP.1 0 (by decide)).1 (hP.1 0 (by decide)).2.1 (hP.1 0 (by decide)).2.2.1
  have hp0 : ax[pp 0]? = some x2 := by
    obtain ⟨a, e1, e2⟩ := hP.2.1
    unfold qsl2 at e2
    rw [h0] at e2
    have e2 : some (Value.ref x2) = some (.ref a) := e2
    cases e2
    rw [← hH.1]
    exact e1
  rw [hp0] at hapa
  obtain rfl := Option.some.inj hapa
  have egu : gua = nI G := by
    have h8 := (hP.1 0 (by decide)).2.2.2.1
    unfold qsl2 at h8
    rw [ea] at h8
    exact (Value.int.inj (Option.some.inj h8)).trans hd
  subst egu
  have hfg : ∀ i, i < 8 → fga i = ge 0 i := fun i hi => by
    have h8 := (hP.1 0 (by decide)).2.2.2.2 i hi
    unfold qsl2 at h8
    rw [ega] at h8
    have h8 : (if i < 8 then some (Value.int (fga i)) else none) = some (.int (ge 0 i)) := h8
    rw [if_pos hi] at h8
    exact Value.int.inj (Option.some.inj h8)
  have hnd : va_nd [0, pt, pp 0, pg 0] = true := va_ndD (l := cD.1) (gs := [0, 21, 37, 39]) (by
    show [cD.1[0]?, cD.1[pt]?, cD.1[pp 0]?, cD.1[pg 0]?] = _
    rw [hA.1, (hP.1 0 (by decide)).1, (hP.1 0 (by decide)).2.1]
    rfl) (by decide)
  have hce : [wx[0]?, wx[pt]?, wx[pp 0]?, wx[pg 0]?] = ([(x, .inr (10, [.ref x0, .ref x1, .ref x2, .ref x3, .ref x4, .ref x5, .ref x6, .ref x7, .ref x8, .ref x9, .ref x10])), (x9, .inr (0, [.ref a0, .ref a1, .ref a2, .ref a3, .ref a4, .ref a5, .ref a6, .ref a7, .int (nI S.1), .int t9, .int t10, .int t11, .int t12, .int t13, .int t14, .int t15, .int t16, .int t17, .int t18])), (x2, .inr (3, [.ref sta, .ref yra, .ref aga, .int lia, .int (nI G), .int laa])), (aga, .inl (γ.2.1 0, 8, .inl fga))] : va_W).map some := by
    rw [h0, k1, ea, ega]
    rfl
  obtain ⟨y9, hy9, hs9⟩ := cs_132 γ l
  cases hy9
  have hs := hs9 ax wx [.ref x, .int th, .int b] ⟨hH, trivial, ⟨v_ref rfl hax, v_int _, v_z hb01, trivial⟩, fun f hf => (by cases hf), fun f hf => (by cases hf)⟩
  have hni : ∀ p g, cD.1[p]? = some g → (g = 37 ∧ p ≠ pp 0 ∨ g = 39 ∧ p ≠ pg 0) → ¬ p ∈ [0, pt, pp 0, pg 0] := by
    intro p g hp hg9 hm
    simp only [List.mem_cons, List.mem_nil_iff, or_false] at hm
    rcases hm with h | h | h | h
    · exact g_ne h hp (show cD.1[0]? = some 0 from rfl) (by omega)
    · exact g_ne h hp hA.1 (by omega)
    · rcases hg9 with ⟨h8, h9⟩ | ⟨h8, h9⟩ <;> first | exact h9 h | exact g_ne h hp (hP.1 0 (by decide)).1 (by omega)
    · rcases hg9 with ⟨h8, h9⟩ | ⟨h8, h9⟩ <;> first | exact h9 h | exact g_ne h hp (hP.1 0 (by decide)).2.1 (by omega)
  have fin : ∀ (w1 : va_W) (H : Heap) (gu' : Int32) (fg' : Nat → Int32), qH cD γ ax (fun _ _ => False) w1 → qK cD cn_132.2.2.2.2.2 wx w1 → va_P γ.1 vwCl w1 H → va_at γ.1 vwCl (x2, .inr (3, [.ref sta, .ref yra, .ref aga, .int lia, .int gu', .int laa])) H → va_at γ.1 vwCl (aga, .inl (γ.2.1 0, 8, .inl fg')) H → (∀ (q : Nat) (c : Nat × va_E), wx[q]? = some c → ¬ q ∈ [0, pt, pp 0, pg 0] → va_at γ.1 vwCl c H) → cM w1 L (upd gd 0 gu') (fun j => if j = 0 then fg' else ge j) := fun w1 H gu' fg' g1 gK g2 a1 a2 a3 => by
    have hag : ax[pg 0]? = some aga := by
      have h8 : (wx.map Prod.fst)[pg 0]? = some aga := by rw [List.getElem?_map, ega]; rfl
      rw [← hH.1]
      exact h8
    refine ⟨pp, pg, cMp_tr (g1.1.trans hH.1.symm) (q_kp2 hH g1 gK (q := 0) (g := 0) rfl (by decide)) (fun k => q_kp2 hH g1 gK (q := 5) (g := 5) rfl (qm_none (by decide) k)) (fun q hq => q_kp2 hH g1 gK hq (by decide)) (fun j hj => ?_) (fun j hj i hi => ?_) (fun k hk => ⟨(q_kp2 hH g1 gK (hP.1 (k + 1) (by omega)).1 (by decide)).trans (hP.2.2.1 k hk).2.1, (hP.2.2.1 k hk).2.2⟩) hP⟩
    · unfold upd
      by_cases e : j = 0
      · subst e
        rw [if_pos rfl]
        exact q_eO (ci := 3) g1 (hP.1 0 (by decide)).1 rfl rfl rfl hp0 g2 a1 (by decide) rfl
      · rw [if_neg e]
        exact q_sO (ci := 3) hH g1 (hP.1 j hj).1 rfl rfl rfl g2 (fun c hc => a3 _ c hc (hni _ 37 (hP.1 j hj).1 (.inl ⟨rfl, fun h => e (hP.2.2.2.1 j 0 hj (by decide) h)⟩))) (hP.1 j hj).2.2.2.1
    · by_cases e : j = 0
      · subst e
        rw [if_pos rfl]
        exact q_eI g1 (hP.1 0 (by decide)).2.1 rfl (.inl rfl) hag g2 a2 i hi
      · rw [if_neg e]
        exact q_sI hH g1 (hP.1 j hj).2.1 rfl (.inl rfl) g2 (fun c hc => a3 _ c hc (hni _ 39 (hP.1 j hj).2.1 (.inr ⟨rfl, fun h => e (hP.2.2.2.2 j 0 hj (by decide) h)⟩))) ((hP.1 j hj).2.2.2.2 i hi)
  have same : ∀ w1, cM w1 L (upd gd 0 (nI G)) (fun j => if j = 0 then fga else ge j) → cM w1 L gd ge := fun w1 h => by
    obtain ⟨pp, pg, h⟩ := h
    refine ⟨pp, pg, cMp_eq (fun _ _ => rfl) (fun j _ => ?_) (fun j _ i hi => ?_) h⟩
    · unfold upd
      by_cases e : j = 0
      · rw [if_pos e, e, hd]
      · rw [if_neg e]
    · by_cases e : j = 0
      · simp only [if_pos e]; rw [hfg i hi, e]
      · simp only [if_neg e]
  have no : ∀ (hc : ¬ (0 ≤ th.toInt ∧ th.toInt < S.1 ∧ G < 8)), kM γ l yX11_guess cX11_guess 3 (some .boolean) ({ frames := 1, cells := 0, slots := 0, locals := 21 } : Room) [.ref x, .int th, .int b] [(x, .inr (10, [.ref x0, .ref x1, .ref x2, .ref x3, .ref x4, .ref x5, .ref x6, .ref x7, .ref x8, .ref x9, .ref x10])), (x9, .inr (0, [.ref a0, .ref a1, .ref a2, .ref a3, .ref a4, .ref a5, .ref a6, .ref a7, .int (nI S.1), .int t9, .int t10, .int t11, .int t12, .int t13, .int t14, .int t15, .int t16, .int t17, .int t18])), (x2, .inr (3, [.ref sta, .ref yra, .ref aga, .int lia, .int (nI G), .int laa])), (aga, .inl (γ.2.1 0, 8, .inl fga))] (fun r w1 => r = some (.int 0) ∧ w1 = [(x, .inr (10, [.ref x0, .ref x1, .ref x2, .ref x3, .ref x4, .ref x5, .ref x6, .ref x7, .ref x8, .ref x9, .ref x10])), (x9, .inr (0, [.ref a0, .ref a1, .ref a2, .ref a3, .ref a4, .ref a5, .ref a6, .ref a7, .int (nI S.1), .int t9, .int t10, .int t11, .int t12, .int t13, .int t14, .int t15, .int t16, .int t17, .int t18])), (x2, .inr (3, [.ref sta, .ref yra, .ref aga, .int lia, .int (nI G), .int laa])), (aga, .inl (γ.2.1 0, 8, .inl fga))]) → kM γ l yX11_guess cX11_guess 3 (some .boolean) ({ frames := 1, cells := 0, slots := 0, locals := 21 } : Room) [.ref x, .int th, .int b] wx (fun r w1 => r = some (.int (gsV S.1 G th)) ∧ qH cD γ ax (fun _ _ => False) w1 ∧ qK cD cn_132.2.2.2.2.2 wx w1 ∧ cM w1 L (gzA S.1 G th (upd gd 0 (nI (G + 1))) gd) (gzA S.1 G th (fun j => if j = 0 then upd (ge 0) G (th * 2 + b) else ge j) ge)) := fun hc hE => by
    refine k_imp (k_andF hs hE ⟨by decide, by decide, by decide, by decide⟩ [0, pt, pp 0, pg 0] hnd hce) (fun r w1 hq => ?_)
    obtain ⟨hq0, H, w2, ⟨q5, q6⟩, k1, k2, k3⟩ := hq
    subst q6
    refine ⟨by rw [q5, gsV_no hc], hq0.1, hq0.2.2.1, ?_⟩
    rw [gzA_no hc, gzA_no hc]
    exact same w1 (fin w1 H _ _ hq0.1 hq0.2.2.1 k1 (k2 2 _ rfl) (k2 3 _ rfl) k3)
  rcases tt_cases hCt.1 th with h1 | ⟨h1, h2⟩ | ⟨t, ht, rfl⟩
  · exact no (gs_lo h1) (c_gu_lo γ l x x0 x1 x2 x3 x4 x5 x6 x7 x8 x9 x10 a0 a1 a2 a3 a4 a5 a6 a7 S.1 t9 t10 t11 t12 t13 t14 t15 t16 t17 t18 sta yra aga lia laa fga (nI G) th b h1)
  · exact no (gs_hi hCt.1 h2) (c_gu_hi γ l x x0 x1 x2 x3 x4 x5 x6 x7 x8 x9 x10 a0 a1 a2 a3 a4 a5 a6 a7 S.1 t9 t10 t11 t12 t13 t14 t15 t16 t17 t18 sta yra aga lia laa fga (nI G) th b h1 h2)
  · by_cases hG : G < 8
    · have hc := gs_in (G := G) hCt.1 ht hG
      have hE : kM γ l yX11_guess cX11_guess 3 (some .boolean) ({ frames := 1, cells := 0, slots := 0, locals := 21 } : Room) [.ref x, .int (nI t), .int b] [(x, .inr (10, [.ref x0, .ref x1, .ref x2, .ref x3, .ref x4, .ref x5, .ref x6, .ref x7, .ref x8, .ref x9, .ref x10])), (x9, .inr (0, [.ref a0, .ref a1, .ref a2, .ref a3, .ref a4, .ref a5, .ref a6, .ref a7, .int (nI S.1), .int t9, .int t10, .int t11, .int t12, .int t13, .int t14, .int t15, .int t16, .int t17, .int t18])), (x2, .inr (3, [.ref sta, .ref yra, .ref aga, .int lia, .int (nI G), .int laa])), (aga, .inl (γ.2.1 0, 8, .inl fga))] (fun r w1 => r = some (.int 1) ∧ w1 = [(x, .inr (10, [.ref x0, .ref x1, .ref x2, .ref x3, .ref x4, .ref x5, .ref x6, .ref x7, .ref x8, .ref x9, .ref x10])), (x9, .inr (0, [.ref a0, .ref a1, .ref a2, .ref a3, .ref a4, .ref a5, .ref a6, .ref a7, .int (nI S.1), .int t9, .int t10, .int t11, .int t12, .int t13, .int t14, .int t15, .int t16, .int t17, .int t18])), (x2, .inr (3, [.ref sta, .ref yra, .ref aga, .int lia, .int (nI (G + 1)), .int laa])), (aga, .inl (γ.2.1 0, 8, .inl (upd fga G (nI t * 2 + b))))]) := by
        rcases hb01 with rfl | rfl
        · exact c_gu_ok0 γ l x x0 x1 x2 x3 x4 x5 x6 x7 x8 x9 x10 a0 a1 a2 a3 a4 a5 a6 a7 S.1 t9 t10 t11 t12 t13 t14 t15 t16 t17 t18 sta yra aga lia laa fga t G hCt.1 ht hG
        · exact c_gu_ok1 γ l x x0 x1 x2 x3 x4 x5 x6 x7 x8 x9 x10 a0 a1 a2 a3 a4 a5 a6 a7 S.1 t9 t10 t11 t12 t13 t14 t15 t16 t17 t18 sta yra aga lia laa fga t G hCt.1 ht hG
      refine k_imp (k_andF hs hE ⟨by decide, by decide, by decide, by decide⟩ [0, pt, pp 0, pg 0] hnd hce) (fun r w1 hq => ?_)
      obtain ⟨hq0, H, w2, ⟨q5, q6⟩, k1, k2, k3⟩ := hq
      subst q6
      refine ⟨by rw [q5, gsV_yes hc], hq0.1, hq0.2.2.1, ?_⟩
      rw [gzA_yes hc, gzA_yes hc]
      obtain ⟨pp, pg, h⟩ := fin w1 H _ _ hq0.1 hq0.2.2.1 k1 (k2 2 _ rfl) (k2 3 _ rfl) k3
      refine ⟨pp, pg, cMp_eq (fun _ _ => rfl) (fun _ _ => rfl) (fun j _ i hi => ?_) h⟩
      by_cases e : j = 0
      · simp only [if_pos e]
        unfold upd
        by_cases ei : i = G
        · rw [if_pos ei, if_pos ei]
        · rw [if_neg ei, if_neg ei]; exact hfg i hi
      · simp only [if_neg e]
    · exact no (fun h => hG h.2.2) (c_gu_full γ l x x0 x1 x2 x3 x4 x5 x6 x7 x8 x9 x10 a0 a1 a2 a3 a4 a5 a6 a7 S.1 t9 t10 t11 t12 t13 t14 t15 t16 t17 t18 sta yra aga lia laa fga t G b hCt.1 ht (fun h => hG (by
        rw [Int32.lt_iff_toInt_lt, nI_toInt (by omega), show (8 : Int32).toInt = 8 from by decide] at h
        omega)))
set_option maxHeartbeats 4000000 in
set_option maxRecDepth 100000 in
theorem gs_model (γ : kΓ) (l : Launch) {am : List Nat} {wm : va_W} {z G : Nat} {S : tS} {gs9 : Nat → Int32} {ob mb : Nat → Nat → Int32} {th b : Int32} (hb01 : b = 0 ∨ b = 1) (hG8 : G ≤ 8) (hd : gs9 0 = nI G) (hH : qH mD γ am (fun _ _ => False) wm) (hMx : mX wm) (ham : am[0]? = some z) (hT : mTo wm S) (hG : mG wm gs9 ob mb) : kM γ l yX12_guess cX12_guess 3 (some .boolean) ({ frames := 1, cells := 0, slots := 0, locals := 21 } : Room) [.ref z, .int th, .int b] wm (fun r w1 => r = some (.int (gsV S.1 G th)) ∧ qH mD γ am (fun _ _ => False) w1 ∧ mX w1 ∧ qK mD mn_341.2.2.2.2.2 wm w1 ∧ mG w1 (gzA S.1 G th (upd gs9 0 (nI (G + 1))) gs9) (gzA S.1 G th (fun j => if j = 0 then upd (ob 0) G th else ob j) ob) (gzA S.1 G th (fun j => if j = 0 then upd (mb 0) G b else mb j) mb)) := by
  obtain ⟨n0, n1, z2, n3, n4, n5, n6, n7, n8, n9, z10, z11, z12, z13, z14, z15, z16, z17, z18, z19, n20, n21, z22, z23, z24, z25, z26, z27, z28, z29, z30, z31, z32, z33, n34, n35, z36, z37, z38, z39, z40, z41, z42, z43, z44, z45, z46, z47, z48, n49, n50, n51, n52, n53, n54, z55, z56, n57, n58, z59, z60, z61, n62, n63, wr, hwm⟩ := m_z64 hH ham
  have h0 : wm[0]? = some (z, .inr (11, [.int n0, .int n1, .ref z2, .int n3, .int n4, .int n5, .int n6, .long n7, .int n8, .int n9, .ref z10, .ref z11, .ref z12, .ref z13, .ref z14, .ref z15, .ref z16, .ref z17, .ref z18, .ref z19, .int n20, .int n21, .ref z22, .ref z23, .ref z24, .ref z25, .ref z26, .ref z27, .ref z28, .ref z29, .ref z30, .ref z31, .ref z32, .ref z33, .int n34, .long n35, .ref z36, .ref z37, .ref z38, .ref z39, .ref z40, .ref z41, .ref z42, .ref z43, .ref z44, .ref z45, .ref z46, .ref z47, .ref z48, .int n49, .int n50, .int n51, .int n52, .int n53, .int n54, .ref z55, .ref z56, .int n57, .int n58, .ref z59, .ref z60, .ref z61, .int n62, .long n63])) := by rw [hwm]; rfl
  obtain ⟨fs0, f0, f1, f2⟩ := q_objAt hH (q := 0) (g := 0) (ci := 11) rfl rfl ham
  rw [h0] at f0
  cases f0
  obtain ⟨v, e, b9⟩ := f2 10 (by decide)
  cases e
  obtain ⟨z9, e, hz10⟩ := q_sg2 mDok (g := 2) (by decide) b9
  cases e
  obtain ⟨ab, s10, -⟩ := q_arrAt hH (q := 2) (g := 2) (tp := 0) rfl rfl (.inl rfl) hz10
  obtain ⟨v, e, b9⟩ := f2 40 (by decide)
  cases e
  obtain ⟨z9, e, hz40⟩ := q_sg2 mDok (g := 28) (by decide) b9
  cases e
  obtain ⟨gs, s40, -⟩ := q_arrAt hH (q := 28) (g := 28) (tp := 0) rfl rfl (.inl rfl) hz40
  obtain ⟨v, e, b9⟩ := f2 41 (by decide)
  cases e
  obtain ⟨z9, e, hz41⟩ := q_sg2 mDok (g := 29) (by decide) b9
  cases e
  obtain ⟨go, s41, -⟩ := q_arrAt hH (q := 29) (g := 29) (tp := 0) rfl rfl (.inl rfl) hz41
  obtain ⟨v, e, b9⟩ := f2 42 (by decide)
  cases e
  obtain ⟨z9, e, hz42⟩ := q_sg2 mDok (g := 30) (by decide) b9
  cases e
  obtain ⟨gm, s42, -⟩ := q_arrAt hH (q := 30) (g := 30) (tp := 3) rfl rfl (.inr (.inr rfl)) hz42
  have ha0 : ab 0 = nI S.1 := by
    have h8 := hT.2.2.1
    unfold qsl2 at h8
    rw [s10] at h8
    exact Value.int.inj (Option.some.inj h8)
  have hgs : ∀ j, j < 5 → gs j = gs9 j := fun j hj => by
    have h8 := (hG j hj).1
    unfold qsl2 at h8
    rw [s40] at h8
    have h8 : (if j < 5 then some (Value.int (gs j)) else none) = some (.int (gs9 j)) := h8
    rw [if_pos hj] at h8
    exact Value.int.inj (Option.some.inj h8)
  have hgo : ∀ j, j < 5 → ∀ i, i < 8 → go (8 * j + i) = ob j i := fun j hj i hi => by
    have h8 := ((hG j hj).2 i hi).1
    unfold qsl2 at h8
    rw [s41] at h8
    have h8 : (if 8 * j + i < 40 then some (Value.int (go (8 * j + i))) else none) = some (.int (ob j i)) := h8
    rw [if_pos (by omega)] at h8
    exact Value.int.inj (Option.some.inj h8)
  have hgm : ∀ j, j < 5 → ∀ i, i < 8 → gm (8 * j + i) = mb j i := fun j hj i hi => by
    have h8 := ((hG j hj).2 i hi).2
    unfold qsl2 at h8
    rw [s42] at h8
    have h8 : (if 8 * j + i < 40 then some (Value.int (gm (8 * j + i))) else none) = some (.int (mb j i)) := h8
    rw [if_pos (by omega)] at h8
    exact Value.int.inj (Option.some.inj h8)
  have hg0 : gs 0 = nI G := (hgs 0 (by decide)).trans hd
  have finG : ∀ (w1 : va_W) (H : Heap) (f1 f2 f3 : Nat → Int32) (gs' : Nat → Int32) (ob' mb' : Nat → Nat → Int32), qH mD γ am (fun _ _ => False) w1 → va_P γ.1 vwCl w1 H → va_at γ.1 vwCl (z40, .inl (γ.2.1 0, 5, .inl f1)) H → va_at γ.1 vwCl (z41, .inl (γ.2.1 0, 40, .inl f2)) H → va_at γ.1 vwCl (z42, .inl (γ.2.1 3, 40, .inl f3)) H → (∀ j, j < 5 → f1 j = gs' j) → (∀ j, j < 5 → ∀ i, i < 8 → f2 (8 * j + i) = ob' j i) → (∀ j, j < 5 → ∀ i, i < 8 → f3 (8 * j + i) = mb' j i) → mG w1 gs' ob' mb' := fun w1 H f1 f2 f3 gs' ob' mb' g1 g2 a1 a2 a3 b1 b2 b3 j hj => by
    refine ⟨?_, fun i hi => ⟨?_, ?_⟩⟩
    · rw [q_eI g1 (q := 28) (g := 28) rfl rfl (.inl rfl) hz40 g2 a1 j hj, b1 j hj]
    · rw [q_eI g1 (q := 29) (g := 29) rfl rfl (.inl rfl) hz41 g2 a2 _ (by omega), b2 j hj i hi]
    · rw [q_eI g1 (q := 30) (g := 30) rfl rfl (.inr (.inr rfl)) hz42 g2 a3 _ (by omega), b3 j hj i hi]
  obtain ⟨y9, hy9, hs9⟩ := m_up rfl (ms_341 γ l)
  cases hy9
  have hs := hs9 am wm [.ref z, .int th, .int b] ⟨hH, hMx, ⟨v_ref rfl ham, v_int _, v_z hb01, trivial⟩, fun f hf => (by cases hf), fun f hf => (by cases hf)⟩
  have hce : [wm[0]?, wm[2]?, wm[28]?, wm[29]?, wm[30]?] = ([(z, .inr (11, [.int n0, .int n1, .ref z2, .int n3, .int n4, .int n5, .int n6, .long n7, .int n8, .int n9, .ref z10, .ref z11, .ref z12, .ref z13, .ref z14, .ref z15, .ref z16, .ref z17, .ref z18, .ref z19, .int n20, .int n21, .ref z22, .ref z23, .ref z24, .ref z25, .ref z26, .ref z27, .ref z28, .ref z29, .ref z30, .ref z31, .ref z32, .ref z33, .int n34, .long n35, .ref z36, .ref z37, .ref z38, .ref z39, .ref z40, .ref z41, .ref z42, .ref z43, .ref z44, .ref z45, .ref z46, .ref z47, .ref z48, .int n49, .int n50, .int n51, .int n52, .int n53, .int n54, .ref z55, .ref z56, .int n57, .int n58, .ref z59, .ref z60, .ref z61, .int n62, .long n63])), (z10, .inl (γ.2.1 0, 10, .inl ab)), (z40, .inl (γ.2.1 0, 5, .inl gs)), (z41, .inl (γ.2.1 0, 40, .inl go)), (z42, .inl (γ.2.1 3, 40, .inl gm))] : va_W).map some := by
    rw [h0, s10, s40, s41, s42]
    rfl
  have no : ∀ (hc : ¬ (0 ≤ th.toInt ∧ th.toInt < S.1 ∧ G < 8)), kM γ l yX12_guess cX12_guess 3 (some .boolean) ({ frames := 1, cells := 0, slots := 0, locals := 21 } : Room) [.ref z, .int th, .int b] [(z, .inr (11, [.int n0, .int n1, .ref z2, .int n3, .int n4, .int n5, .int n6, .long n7, .int n8, .int n9, .ref z10, .ref z11, .ref z12, .ref z13, .ref z14, .ref z15, .ref z16, .ref z17, .ref z18, .ref z19, .int n20, .int n21, .ref z22, .ref z23, .ref z24, .ref z25, .ref z26, .ref z27, .ref z28, .ref z29, .ref z30, .ref z31, .ref z32, .ref z33, .int n34, .long n35, .ref z36, .ref z37, .ref z38, .ref z39, .ref z40, .ref z41, .ref z42, .ref z43, .ref z44, .ref z45, .ref z46, .ref z47, .ref z48, .int n49, .int n50, .int n51, .int n52, .int n53, .int n54, .ref z55, .ref z56, .int n57, .int n58, .ref z59, .ref z60, .ref z61, .int n62, .long n63])), (z10, .inl (γ.2.1 0, 10, .inl ab)), (z40, .inl (γ.2.1 0, 5, .inl gs)), (z41, .inl (γ.2.1 0, 40, .inl go)), (z42, .inl (γ.2.1 3, 40, .inl gm))] (fun r w1 => r = some (.int 0) ∧ w1 = [(z, .inr (11, [.int 0, .int n1, .ref z2, .int n3, .int n4, .int n5, .int n6, .long n7, .int n8, .int n9, .ref z10, .ref z11, .ref z12, .ref z13, .ref z14, .ref z15, .ref z16, .ref z17, .ref z18, .ref z19, .int n20, .int n21, .ref z22, .ref z23, .ref z24, .ref z25, .ref z26, .ref z27, .ref z28, .ref z29, .ref z30, .ref z31, .ref z32, .ref z33, .int n34, .long n35, .ref z36, .ref z37, .ref z38, .ref z39, .ref z40, .ref z41, .ref z42, .ref z43, .ref z44, .ref z45, .ref z46, .ref z47, .ref z48, .int n49, .int n50, .int n51, .int n52, .int n53, .int n54, .ref z55, .ref z56, .int n57, .int n58, .ref z59, .ref z60, .ref z61, .int n62, .long n63])), (z10, .inl (γ.2.1 0, 10, .inl ab)), (z40, .inl (γ.2.1 0, 5, .inl gs)), (z41, .inl (γ.2.1 0, 40, .inl go)), (z42, .inl (γ.2.1 3, 40, .inl gm))]) → kM γ l yX12_guess cX12_guess 3 (some .boolean) ({ frames := 1, cells := 0, slots := 0, locals := 21 } : Room) [.ref z, .int th, .int b] wm (fun r w1 => r = some (.int (gsV S.1 G th)) ∧ qH mD γ am (fun _ _ => False) w1 ∧ mX w1 ∧ qK mD mn_341.2.2.2.2.2 wm w1 ∧ mG w1 (gzA S.1 G th (upd gs9 0 (nI (G + 1))) gs9) (gzA S.1 G th (fun j => if j = 0 then upd (ob 0) G th else ob j) ob) (gzA S.1 G th (fun j => if j = 0 then upd (mb 0) G b else mb j) mb)) := fun hc hE => by
    refine k_imp (k_and hs hE ⟨by decide, by decide, by decide, by decide⟩ [0, 2, 28, 29, 30] rfl hce) (fun r w1 hq => ?_)
    obtain ⟨hq0, H, w2, ⟨q5, q6⟩, k1, k2⟩ := hq
    subst q6
    refine ⟨by rw [q5, gsV_no hc], hq0.1, hq0.2.1, hq0.2.2.1, ?_⟩
    rw [gzA_no hc, gzA_no hc, gzA_no hc]
    exact finG w1 H _ _ _ _ _ _ hq0.1 k1 (k2 2 _ rfl) (k2 3 _ rfl) (k2 4 _ rfl) hgs hgo hgm
  rcases tt_cases hT.1 th with h1 | ⟨h1, h2⟩ | ⟨t, ht, rfl⟩
  · exact no (gs_lo h1) (c_mgu_lo γ l z z2 z10 z11 z12 z13 z14 z15 z16 z17 z18 z19 z22 z23 z24 z25 z26 z27 z28 z29 z30 z31 z32 z33 z36 z37 z38 z39 z40 z41 z42 z43 z44 z45 z46 z47 z48 z55 z56 z59 z60 z61 n0 n1 n3 n4 n5 n6 n7 n8 n9 n20 n21 n34 n35 n49 n50 n51 n52 n53 n54 n57 n58 n62 n63 ab S.1 gs go gm th b ha0 h1)
  · exact no (gs_hi hT.1 h2) (c_mgu_hi γ l z z2 z10 z11 z12 z13 z14 z15 z16 z17 z18 z19 z22 z23 z24 z25 z26 z27 z28 z29 z30 z31 z32 z33 z36 z37 z38 z39 z40 z41 z42 z43 z44 z45 z46 z47 z48 z55 z56 z59 z60 z61 n0 n1 n3 n4 n5 n6 n7 n8 n9 n20 n21 n34 n35 n49 n50 n51 n52 n53 n54 n57 n58 n62 n63 ab S.1 gs go gm th b ha0 h1 h2)
  · by_cases hG9 : G < 8
    · have hc := gs_in (G := G) hT.1 ht hG9
      refine k_imp (k_and hs (c_mgu_ok γ l z z2 z10 z11 z12 z13 z14 z15 z16 z17 z18 z19 z22 z23 z24 z25 z26 z27 z28 z29 z30 z31 z32 z33 z36 z37 z38 z39 z40 z41 z42 z43 z44 z45 z46 z47 z48 z55 z56 z59 z60 z61 n0 n1 n3 n4 n5 n6 n7 n8 n9 n20 n21 n34 n35 n49 n50 n51 n52 n53 n54 n57 n58 n62 n63 ab S.1 gs go gm t G b ha0 hT.1 ht hg0 hG9) ⟨by decide, by decide, by decide, by decide⟩ [0, 2, 28, 29, 30] rfl hce) (fun r w1 hq => ?_)
      obtain ⟨hq0, H, w2, ⟨q5, q6⟩, k1, k2⟩ := hq
      subst q6
      refine ⟨by rw [q5, gsV_yes hc], hq0.1, hq0.2.1, hq0.2.2.1, ?_⟩
      rw [gzA_yes hc, gzA_yes hc, gzA_yes hc]
      refine finG w1 H _ _ _ _ _ _ hq0.1 k1 (k2 2 _ rfl) (k2 3 _ rfl) (k2 4 _ rfl) (fun j hj => ?_) (fun j hj i hi => ?_) (fun j hj i hi => ?_)
      · unfold upd
        by_cases e : j = 0
        · rw [if_pos e, if_pos e]
        · rw [if_neg e, if_neg e]; exact hgs j hj
      · by_cases e : j = 0
        · simp only [if_pos e]
          unfold upd
          by_cases ei : i = G
          · rw [if_pos (by omega), if_pos ei]
          · rw [if_neg (by omega), if_neg ei, hgo j hj i hi, e]
        · simp only [if_neg e]
          unfold upd
          rw [if_neg (by omega)]; exact hgo j hj i hi
      · by_cases e : j = 0
        · simp only [if_pos e]
          unfold upd
          by_cases ei : i = G
          · rw [if_pos (by omega), if_pos ei]; exact nar01 hb01
          · rw [if_neg (by omega), if_neg ei, hgm j hj i hi, e]
        · simp only [if_neg e]
          unfold upd
          rw [if_neg (by omega)]; exact hgm j hj i hi
    · have e8 : G = 8 := by omega
      exact no (fun h => hG9 h.2.2) (c_mgu_full γ l z z2 z10 z11 z12 z13 z14 z15 z16 z17 z18 z19 z22 z23 z24 z25 z26 z27 z28 z29 z30 z31 z32 z33 z36 z37 z38 z39 z40 z41 z42 z43 z44 z45 z46 z47 z48 z55 z56 z59 z60 z61 n0 n1 n3 n4 n5 n6 n7 n8 n9 n20 n21 n34 n35 n49 n50 n51 n52 n53 n54 n57 n58 n62 n63 ab S.1 gs go gm t G b ha0 hT.1 ht hg0 (by rw [e8]; rfl))

set_option maxHeartbeats 4000000 in
set_option maxRecDepth 100000 in
theorem l_askX (γ : kΓ) (l : Launch) {ax : List Nat} {wx : va_W} {x G : Nat} {S : tS} {L gd : Nat → Int32} {ge : Nat → Nat → Int32} (hG8 : G ≤ 8) (hd : gd 0 = nI G) (hH : qH cD γ ax (fun _ _ => False) wx) (hax : ax[0]? = some x) (hT : cTo wx S) (hM : cM wx L gd ge) : kM γ l yX11_ask cX11_ask 8 (some .int) ({ frames := 3, cells := 0, slots := 0, locals := 65 } : Room) [.ref x] wx (fun r w1 => r = some (.int (asC S.2.2.2.2 (ge 0) G S.1)) ∧ qH cD γ ax (fun _ _ => False) w1 ∧ qK cD cn_107.2.2.2.2.2 wx w1) := by
  obtain ⟨pt, t0, t3, t4, pd, d0, d3, d4, hA, hB, hne, h9, h10, hCt⟩ := hT
  obtain ⟨x0, x1, x2, x3, x4, x5, x6, x7, x8, x9, x10, wr, hwx⟩ := c_x11 hH hax
  have h0 : wx[0]? = some (x, .inr (10, [.ref x0, .ref x1, .ref x2, .ref x3, .ref x4, .ref x5, .ref x6, .ref x7, .ref x8, .ref x9, .ref x10])) := by rw [hwx]; rfl
  have hpt : ax[pt]? = some x9 := by
    obtain ⟨a, e1, e2⟩ := h9
    unfold qsl2 at e2
    rw [h0] at e2
    have e2 : some (Value.ref x9) = some (.ref a) := e2
    cases e2
    rw [← hH.1]
    exact e1
  obtain ⟨a0, a1, a2, a3, a4, a5, a6, a7, t8, t9, t10, t11, t12, t13, t14, t15, t16, t17, t18, k1⟩ := c_abL hH hA.1 hpt
  have e8 : t8 = nI S.1 := by
    have h8 := hCt.2.2.1
    unfold qsl2 at h8
    rw [k1] at h8
    exact Value.int.inj (Option.some.inj h8)
  subst e8
  have ha3 : ax[t3]? = some a3 := by
    obtain ⟨a, e1, e2⟩ := hA.2.2.2.2.2.1
    unfold qsl2 at e2
    rw [k1] at e2
    have e2 : some (Value.ref a3) = some (.ref a) := e2
    cases e2
    rw [← hH.1]
    exact e1
  obtain ⟨af, s3, -⟩ := q_arrAt hH (q := t3) (g := 25) (tp := 0) hA.2.2.1 rfl (.inl rfl) ha3
  have haf : ∀ i, i < S.1 → af i = S.2.2.2.2 i := fun i hi => by
    have h8 := hCt.2.2.2.2.2.2 i hi
    have h7 := hCt.1
    unfold qsl2 at h8
    rw [s3] at h8
    have h8 : (if i < 8 then some (Value.int (af i)) else none) = some (.int (S.2.2.2.2 i)) := h8
    rw [if_pos (by omega)] at h8
    exact Value.int.inj (Option.some.inj h8)
  obtain ⟨pp, pg, hP⟩ := hM
  obtain ⟨apa, sta, yra, aga, ypa, lia, gua, laa, fya, fga, hapa, ea, hva, hsa, hypa, eya, ega, hlia, hgua⟩ := c_page hH (hP.1 0 (by decide)).1 (hP.1 0 (by decide)).2.1 (hP.1 0 (by decide)).2.2.1
  have hp0 : ax[pp 0]? = some x2 := by
    obtain ⟨a, e1, e2⟩ := hP.2.1
    unfold qsl2 at e2
    rw [h0] at e2
    have e2 : some (Value.ref x2) = some (.ref a) := e2
    cases e2
    rw [← hH.1]
    exact e1
  rw [hp0] at hapa
  obtain rfl := Option.some.inj hapa
  have egu : gua = nI G := by
    have h8 := (hP.1 0 (by decide)).2.2.2.1
    unfold qsl2 at h8
    rw [ea] at h8
    exact (Value.int.inj (Option.some.inj h8)).trans hd
  subst egu
  have hfg : ∀ i, i < 8 → fga i = ge 0 i := fun i hi => by
    have h8 := (hP.1 0 (by decide)).2.2.2.2 i hi
    unfold qsl2 at h8
    rw [ega] at h8
    have h8 : (if i < 8 then some (Value.int (fga i)) else none) = some (.int (ge 0 i)) := h8
    rw [if_pos hi] at h8
    exact Value.int.inj (Option.some.inj h8)
  have hnd : va_nd [0, pt, t3, pp 0, pg 0] = true := va_ndD (l := cD.1) (gs := [0, 21, 25, 37, 39]) (by
    show [cD.1[0]?, cD.1[pt]?, cD.1[t3]?, cD.1[pp 0]?, cD.1[pg 0]?] = _
    rw [hA.1, hA.2.2.1, (hP.1 0 (by decide)).1, (hP.1 0 (by decide)).2.1]
    rfl) (by decide)
  have hce : [wx[0]?, wx[pt]?, wx[t3]?, wx[pp 0]?, wx[pg 0]?] = ([(x, .inr (10, [.ref x0, .ref x1, .ref x2, .ref x3, .ref x4, .ref x5, .ref x6, .ref x7, .ref x8, .ref x9, .ref x10])), (x9, .inr (0, [.ref a0, .ref a1, .ref a2, .ref a3, .ref a4, .ref a5, .ref a6, .ref a7, .int (nI S.1), .int t9, .int t10, .int t11, .int t12, .int t13, .int t14, .int t15, .int t16, .int t17, .int t18])), (a3, .inl (γ.2.1 0, 8, .inl af)), (x2, .inr (3, [.ref sta, .ref yra, .ref aga, .int lia, .int (nI G), .int laa])), (aga, .inl (γ.2.1 0, 8, .inl fga))] : va_W).map some := by
    rw [h0, k1, s3, ea, ega]
    rfl
  obtain ⟨y9, hy9, hs9⟩ := cs_107 γ l
  cases hy9
  refine k_imp (k_and (hs9 ax wx [.ref x] ⟨hH, trivial, ⟨v_ref rfl hax, trivial⟩, fun f hf => (by cases hf), fun f hf => (by cases hf)⟩) (c_X11_ask γ l x x0 x1 x3 x4 x5 x6 x7 x8 x9 x10 a0 a1 a2 a3 a4 a5 a6 a7 S.1 t9 t10 t11 t12 t13 t14 t15 t16 t17 t18 af x2 sta yra aga lia laa fga G hCt.1 hG8) ⟨by decide, by decide, by decide, by decide⟩ [0, pt, t3, pp 0, pg 0] hnd hce) (fun r w1 hq => ?_)
  obtain ⟨hq0, H, w2, ⟨q5, -⟩, -, -⟩ := hq
  exact ⟨by rw [q5, asC_same (fun i hi => hfg i (by omega)) S.1 haf], hq0.1, hq0.2.2.1⟩
set_option maxHeartbeats 4000000 in
set_option maxRecDepth 100000 in
theorem l_askM (γ : kΓ) (l : Launch) {am : List Nat} {wm : va_W} {z G : Nat} {S : tS} {gs9 : Nat → Int32} {ob mb : Nat → Nat → Int32} (hG8 : G ≤ 8) (hd : gs9 0 = nI G) (hH : qH mD γ am (fun _ _ => False) wm) (hMx : mX wm) (ham : am[0]? = some z) (hT : mTo wm S) (hG : mG wm gs9 ob mb) : kM γ l yX12_ask cX12_ask 7 (some .int) ({ frames := 1, cells := 0, slots := 0, locals := 24 } : Room) [.ref z] wm (fun r w1 => r = some (.int (asM S.2.2.2.2 (ob 0) (mb 0) G S.1)) ∧ qH mD γ am (fun _ _ => False) w1 ∧ mX w1 ∧ qK mD mn_73.2.2.2.2.2 wm w1) := by
  obtain ⟨n0, n1, z2, n3, n4, n5, n6, n7, n8, n9, z10, z11, z12, z13, z14, z15, z16, z17, z18, z19, n20, n21, z22, z23, z24, z25, z26, z27, z28, z29, z30, z31, z32, z33, n34, n35, z36, z37, z38, z39, z40, z41, z42, z43, z44, z45, z46, z47, z48, n49, n50, n51, n52, n53, n54, z55, z56, n57, n58, z59, z60, z61, n62, n63, wr, hwm⟩ := m_z64 hH ham
  have h0 : wm[0]? = some (z, .inr (11, [.int n0, .int n1, .ref z2, .int n3, .int n4, .int n5, .int n6, .long n7, .int n8, .int n9, .ref z10, .ref z11, .ref z12, .ref z13, .ref z14, .ref z15, .ref z16, .ref z17, .ref z18, .ref z19, .int n20, .int n21, .ref z22, .ref z23, .ref z24, .ref z25, .ref z26, .ref z27, .ref z28, .ref z29, .ref z30, .ref z31, .ref z32, .ref z33, .int n34, .long n35, .ref z36, .ref z37, .ref z38, .ref z39, .ref z40, .ref z41, .ref z42, .ref z43, .ref z44, .ref z45, .ref z46, .ref z47, .ref z48, .int n49, .int n50, .int n51, .int n52, .int n53, .int n54, .ref z55, .ref z56, .int n57, .int n58, .ref z59, .ref z60, .ref z61, .int n62, .long n63])) := by rw [hwm]; rfl
  obtain ⟨fs0, f0, f1, f2⟩ := q_objAt hH (q := 0) (g := 0) (ci := 11) rfl rfl ham
  rw [h0] at f0
  cases f0
  obtain ⟨v, e, b9⟩ := f2 10 (by decide)
  cases e
  obtain ⟨z9, e, hz10⟩ := q_sg2 mDok (g := 2) (by decide) b9
  cases e
  obtain ⟨ab, s10, -⟩ := q_arrAt hH (q := 2) (g := 2) (tp := 0) rfl rfl (.inl rfl) hz10
  obtain ⟨v, e, b9⟩ := f2 15 (by decide)
  cases e
  obtain ⟨z9, e, hz15⟩ := q_sg2 mDok (g := 7) (by decide) b9
  cases e
  obtain ⟨bh, s15, -⟩ := q_arrAt hH (q := 7) (g := 7) (tp := 0) rfl rfl (.inl rfl) hz15
  obtain ⟨v, e, b9⟩ := f2 40 (by decide)
  cases e
  obtain ⟨z9, e, hz40⟩ := q_sg2 mDok (g := 28) (by decide) b9
  cases e
  obtain ⟨gs, s40, -⟩ := q_arrAt hH (q := 28) (g := 28) (tp := 0) rfl rfl (.inl rfl) hz40
  obtain ⟨v, e, b9⟩ := f2 41 (by decide)
  cases e
  obtain ⟨z9, e, hz41⟩ := q_sg2 mDok (g := 29) (by decide) b9
  cases e
  obtain ⟨go, s41, -⟩ := q_arrAt hH (q := 29) (g := 29) (tp := 0) rfl rfl (.inl rfl) hz41
  obtain ⟨v, e, b9⟩ := f2 42 (by decide)
  cases e
  obtain ⟨z9, e, hz42⟩ := q_sg2 mDok (g := 30) (by decide) b9
  cases e
  obtain ⟨gm, s42, -⟩ := q_arrAt hH (q := 30) (g := 30) (tp := 3) rfl rfl (.inr (.inr rfl)) hz42
  have ha0 : ab 0 = nI S.1 := by
    have h8 := hT.2.2.1
    unfold qsl2 at h8
    rw [s10] at h8
    exact Value.int.inj (Option.some.inj h8)
  have hbf : ∀ i, i < S.1 → bh i = S.2.2.2.2 i := fun i hi => by
    have h8 := hT.2.2.2.2.2.2 i hi
    have h7 := hT.1
    unfold qsl2 at h8
    rw [s15] at h8
    have h8 : (if i < 16 then some (Value.int (bh i)) else none) = some (.int (S.2.2.2.2 i)) := h8
    rw [if_pos (by omega)] at h8
    exact Value.int.inj (Option.some.inj h8)
  have hg0 : gs 0 = nI G := by
    have h8 := (hG 0 (by decide)).1
    unfold qsl2 at h8
    rw [s40] at h8
    exact (Value.int.inj (Option.some.inj h8)).trans hd
  have hgo0 : ∀ i, i < 8 → go i = ob 0 i := fun i hi => by
    have h8 := ((hG 0 (by decide)).2 i hi).1
    unfold qsl2 at h8
    rw [s41] at h8
    have h8 : (if 8 * 0 + i < 40 then some (Value.int (go (8 * 0 + i))) else none) = some (.int (ob 0 i)) := h8
    rw [if_pos (by omega), show 8 * 0 + i = i by omega] at h8
    exact Value.int.inj (Option.some.inj h8)
  have hgm0 : ∀ i, i < 8 → gm i = mb 0 i := fun i hi => by
    have h8 := ((hG 0 (by decide)).2 i hi).2
    unfold qsl2 at h8
    rw [s42] at h8
    have h8 : (if 8 * 0 + i < 40 then some (Value.int (gm (8 * 0 + i))) else none) = some (.int (mb 0 i)) := h8
    rw [if_pos (by omega), show 8 * 0 + i = i by omega] at h8
    exact Value.int.inj (Option.some.inj h8)
  obtain ⟨y9, hy9, hs9⟩ := m_up rfl (ms_73 γ l)
  cases hy9
  have hce : [wm[0]?, wm[2]?, wm[7]?, wm[28]?, wm[29]?, wm[30]?] = ([(z, .inr (11, [.int n0, .int n1, .ref z2, .int n3, .int n4, .int n5, .int n6, .long n7, .int n8, .int n9, .ref z10, .ref z11, .ref z12, .ref z13, .ref z14, .ref z15, .ref z16, .ref z17, .ref z18, .ref z19, .int n20, .int n21, .ref z22, .ref z23, .ref z24, .ref z25, .ref z26, .ref z27, .ref z28, .ref z29, .ref z30, .ref z31, .ref z32, .ref z33, .int n34, .long n35, .ref z36, .ref z37, .ref z38, .ref z39, .ref z40, .ref z41, .ref z42, .ref z43, .ref z44, .ref z45, .ref z46, .ref z47, .ref z48, .int n49, .int n50, .int n51, .int n52, .int n53, .int n54, .ref z55, .ref z56, .int n57, .int n58, .ref z59, .ref z60, .ref z61, .int n62, .long n63])), (z10, .inl (γ.2.1 0, 10, .inl ab)), (z15, .inl (γ.2.1 0, 16, .inl bh)), (z40, .inl (γ.2.1 0, 5, .inl gs)), (z41, .inl (γ.2.1 0, 40, .inl go)), (z42, .inl (γ.2.1 3, 40, .inl gm))] : va_W).map some := by
    rw [h0, s10, s15, s40, s41, s42]
    rfl
  refine k_imp (k_and (hs9 am wm [.ref z] ⟨hH, hMx, ⟨v_ref rfl ham, trivial⟩, fun f hf => (by cases hf), fun f hf => (by cases hf)⟩) (c_X12_ask γ l z z2 z10 z11 z12 z13 z14 z15 z16 z17 z18 z19 z22 z23 z24 z25 z26 z27 z28 z29 z30 z31 z32 z33 z36 z37 z38 z39 z40 z41 z42 z43 z44 z45 z46 z47 z48 z55 z56 z59 z60 z61 n0 n1 n3 n4 n5 n6 n7 n8 n9 n20 n21 n34 n35 n49 n50 n51 n52 n53 n54 n57 n58 n62 n63 ab bh gs go gm S.1 G ha0 hg0 hT.1 hG8) ⟨by decide, by decide, by decide, by decide⟩ [0, 2, 7, 28, 29, 30] rfl hce) (fun r w1 hq => ?_)
  obtain ⟨hq0, H, w2, ⟨q5, -⟩, -, -⟩ := hq
  exact ⟨by rw [q5, asM_same (fun i hi => ⟨hgo0 i (by omega), hgm0 i (by omega)⟩) S.1 hbf], hq0.1, hq0.2.1, hq0.2.2.1⟩

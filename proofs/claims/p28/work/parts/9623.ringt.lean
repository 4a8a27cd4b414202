/-! ring on the typed worlds -/
set_option maxHeartbeats 4000000 in
set_option maxRecDepth 100000 in
theorem l_ringX (γ : kΓ) (l : Launch) {ax : List Nat} {wx : va_W} {x : Nat} {S : tS} (hH : qH cD γ ax (fun _ _ => False) wx) (hax : ax[0]? = some x) (hT : cTo wx S) (th : Int32) : kM γ l yX11_ring cX11_ring 4 (some .int) ({ frames := 2, cells := 0, slots := 0, locals := 44 } : Room) [.ref x, .int th] wx (fun r w1 => r = some (.int (rgV S.2.2.2.2 S.1 th)) ∧ qH cD γ ax (fun _ _ => False) w1 ∧ qK cD cn_166.2.2.2.2.2 wx w1) := by
  obtain ⟨pt, t0, t3, t4, pd, d0, d3, d4, hA, hB, hne, h9, h10, hCt⟩ := hT
  obtain ⟨x0, x1, x2, x3, x4, x5, x6, x7, x8, x9, x10, wr, hwx⟩ := c_x11 hH hax
  have h0 : wx[0]? = some (x, .inr (10, [.ref x0, .ref x1, .ref x2, .ref x3, .ref x4, .ref x5, .ref x6, .ref x7, .ref x8, .ref x9, .ref x10])) := by rw [hwx]; rfl
  have hpt : ax[pt]? = some x9 := by
    obtain ⟨a, e1, e2⟩ := h9
    unfold qsl2 at e2
    rw [h0] at e2
    have e2 : some (Value.ref x9) = some (.ref a) := e2
    cases e2
    rw [← hH.1]
    exact e1
  obtain ⟨a0, a1, a2, a3, a4, a5, a6, a7, t8, t9, t10, t11, t12, t13, t14, t15, t16, t17, t18, k1⟩ := c_abL hH hA.1 hpt
  have e8 : t8 = nI S.1 := by
    have h8 := hCt.2.2.1
    unfold qsl2 at h8
    rw [k1] at h8
    exact Value.int.inj (Option.some.inj h8)
  subst e8
  have ha3 : ax[t3]? = some a3 := by
    obtain ⟨a, e1, e2⟩ := hA.2.2.2.2.2.1
    unfold qsl2 at e2
    rw [k1] at e2
    have e2 : some (Value.ref a3) = some (.ref a) := e2
    cases e2
    rw [← hH.1]
    exact e1
  obtain ⟨af, s3, -⟩ := q_arrAt hH (q := t3) (g := 25) (tp := 0) hA.2.2.1 rfl (.inl rfl) ha3
  have haf : ∀ i, i < S.1 → af i = S.2.2.2.2 i := fun i hi => by
    have h8 := hCt.2.2.2.2.2.2 i hi
    have h7 := hCt.1
    unfold qsl2 at h8
    rw [s3] at h8
    have h8 : (if i < 8 then some (Value.int (af i)) else none) = some (.int (S.2.2.2.2 i)) := h8
    rw [if_pos (by omega)] at h8
    exact Value.int.inj (Option.some.inj h8)
  have hnd : va_nd [0, pt, t3] = true := va_ndD (l := cD.1) (gs := [0, 21, 25]) (by
    show [cD.1[0]?, cD.1[pt]?, cD.1[t3]?] = _
    rw [hA.1, hA.2.2.1]
    rfl) (by decide)
  have hce : [wx[0]?, wx[pt]?, wx[t3]?] = ([(x, .inr (10, [.ref x0, .ref x1, .ref x2, .ref x3, .ref x4, .ref x5, .ref x6, .ref x7, .ref x8, .ref x9, .ref x10])), (x9, .inr (0, [.ref a0, .ref a1, .ref a2, .ref a3, .ref a4, .ref a5, .ref a6, .ref a7, .int (nI S.1), .int t9, .int t10, .int t11, .int t12, .int t13, .int t14, .int t15, .int t16, .int t17, .int t18])), (a3, .inl (γ.2.1 0, 8, .inl af))] : va_W).map some := by
    rw [h0, k1, s3]
    rfl
  obtain ⟨y9, hy9, hs9⟩ := cs_166 γ l
  cases hy9
  rcases tt_cases hCt.1 th with h1 | ⟨h1, h2⟩ | ⟨t, ht, rfl⟩
  · refine k_imp (k_and (hs9 ax wx [.ref x, .int th] ⟨hH, trivial, ⟨v_ref rfl hax, v_int _, trivial⟩, fun f hf => (by cases hf), fun f hf => (by cases hf)⟩) (c_X11_ring_lo γ l x x0 x1 x2 x3 x4 x5 x6 x7 x8 x9 x10 a0 a1 a2 a3 a4 a5 a6 a7 S.1 t9 t10 t11 t12 t13 t14 t15 t16 t17 t18 af th h1) ⟨by decide, by decide, by decide, by decide⟩ [0, pt, t3] hnd hce) (fun r w1 hq => ?_)
    obtain ⟨hq0, H, w2, ⟨q5, -⟩, -, -⟩ := hq
    exact ⟨by rw [q5, rV_lo h1], hq0.1, hq0.2.2.1⟩
  · refine k_imp (k_and (hs9 ax wx [.ref x, .int th] ⟨hH, trivial, ⟨v_ref rfl hax, v_int _, trivial⟩, fun f hf => (by cases hf), fun f hf => (by cases hf)⟩) (c_X11_ring_hi γ l x x0 x1 x2 x3 x4 x5 x6 x7 x8 x9 x10 a0 a1 a2 a3 a4 a5 a6 a7 S.1 t9 t10 t11 t12 t13 t14 t15 t16 t17 t18 af th h1 h2) ⟨by decide, by decide, by decide, by decide⟩ [0, pt, t3] hnd hce) (fun r w1 hq => ?_)
    obtain ⟨hq0, H, w2, ⟨q5, -⟩, -, -⟩ := hq
    exact ⟨by rw [q5, rV_hi hCt.1 h2], hq0.1, hq0.2.2.1⟩
  · refine k_imp (k_and (hs9 ax wx [.ref x, .int (nI t)] ⟨hH, trivial, ⟨v_ref rfl hax, v_int _, trivial⟩, fun f hf => (by cases hf), fun f hf => (by cases hf)⟩) (c_X11_ring_in γ l x x0 x1 x2 x3 x4 x5 x6 x7 x8 x9 x10 a0 a1 a2 a3 a4 a5 a6 a7 S.1 t9 t10 t11 t12 t13 t14 t15 t16 t17 t18 af t hCt.1 ht) ⟨by decide, by decide, by decide, by decide⟩ [0, pt, t3] hnd hce) (fun r w1 hq => ?_)
    obtain ⟨hq0, H, w2, ⟨q5, -⟩, -, -⟩ := hq
    exact ⟨by rw [q5, ← rV_same haf, rV_in hCt.1 ht], hq0.1, hq0.2.2.1⟩
set_option maxHeartbeats 4000000 in
set_option maxRecDepth 100000 in
theorem l_ringM (γ : kΓ) (l : Launch) {am : List Nat} {wm : va_W} {z : Nat} {S : tS} (hH : qH mD γ am (fun _ _ => False) wm) (hMx : mX wm) (ham : am[0]? = some z) (hT : mTo wm S) (th : Int32) : kM γ l yX12_ring cX12_ring 4 (some .int) ({ frames := 1, cells := 0, slots := 0, locals := 23 } : Room) [.ref z, .int th] wm (fun r w1 => r = some (.int (rgV S.2.2.2.2 S.1 th)) ∧ qH mD γ am (fun _ _ => False) w1 ∧ mX w1 ∧ qK mD mn_518.2.2.2.2.2 wm w1) := by
  obtain ⟨n0, n1, z2, n3, n4, n5, n6, n7, n8, n9, z10, z11, z12, z13, z14, z15, z16, z17, z18, z19, n20, n21, z22, z23, z24, z25, z26, z27, z28, z29, z30, z31, z32, z33, n34, n35, z36, z37, z38, z39, z40, z41, z42, z43, z44, z45, z46, z47, z48, n49, n50, n51, n52, n53, n54, z55, z56, n57, n58, z59, z60, z61, n62, n63, wr, hwm⟩ := m_z64 hH ham
  have h0 : wm[0]? = some (z, .inr (11, [.int n0, .int n1, .ref z2, .int n3, .int n4, .int n5, .int n6, .long n7, .int n8, .int n9, .ref z10, .ref z11, .ref z12, .ref z13, .ref z14, .ref z15, .ref z16, .ref z17, .ref z18, .ref z19, .int n20, .int n21, .ref z22, .ref z23, .ref z24, .ref z25, .ref z26, .ref z27, .ref z28, .ref z29, .ref z30, .ref z31, .ref z32, .ref z33, .int n34, .long n35, .ref z36, .ref z37, .ref z38, .ref z39, .ref z40, .ref z41, .ref z42, .ref z43, .ref z44, .ref z45, .ref z46, .ref z47, .ref z48, .int n49, .int n50, .int n51, .int n52, .int n53, .int n54, .ref z55, .ref z56, .int n57, .int n58, .ref z59, .ref z60, .ref z61, .int n62, .long n63])) := by rw [hwm]; rfl
  obtain ⟨fs0, f0, f1, f2⟩ := q_objAt hH (q := 0) (g := 0) (ci := 11) rfl rfl ham
  rw [h0] at f0
  cases f0
  obtain ⟨v, e, b9⟩ := f2 10 (by decide)
  cases e
  obtain ⟨z9, e, hzA⟩ := q_sg2 mDok (g := 2) (by decide) b9
  cases e
  obtain ⟨ab, sA, -⟩ := q_arrAt hH (q := 2) (g := 2) (tp := 0) rfl rfl (.inl rfl) hzA
  obtain ⟨v, e, b9⟩ := f2 15 (by decide)
  cases e
  obtain ⟨z9, e, hzB⟩ := q_sg2 mDok (g := 7) (by decide) b9
  cases e
  obtain ⟨bh, sB, -⟩ := q_arrAt hH (q := 7) (g := 7) (tp := 0) rfl rfl (.inl rfl) hzB
  have ha0 : ab 0 = nI S.1 := by
    have h8 := hT.2.2.1
    unfold qsl2 at h8
    rw [sA] at h8
    exact Value.int.inj (Option.some.inj h8)
  have hbf : ∀ i, i < S.1 → bh i = S.2.2.2.2 i := fun i hi => by
    have h8 := hT.2.2.2.2.2.2 i hi
    have h7 := hT.1
    unfold qsl2 at h8
    rw [sB] at h8
    have h8 : (if i < 16 then some (Value.int (bh i)) else none) = some (.int (S.2.2.2.2 i)) := h8
    rw [if_pos (by omega)] at h8
    exact Value.int.inj (Option.some.inj h8)
  obtain ⟨y9, hy9, hs9⟩ := m_up rfl (ms_518 γ l)
  cases hy9
  have hce : [wm[0]?, wm[2]?, wm[7]?] = ([(z, .inr (11, [.int n0, .int n1, .ref z2, .int n3, .int n4, .int n5, .int n6, .long n7, .int n8, .int n9, .ref z10, .ref z11, .ref z12, .ref z13, .ref z14, .ref z15, .ref z16, .ref z17, .ref z18, .ref z19, .int n20, .int n21, .ref z22, .ref z23, .ref z24, .ref z25, .ref z26, .ref z27, .ref z28, .ref z29, .ref z30, .ref z31, .ref z32, .ref z33, .int n34, .long n35, .ref z36, .ref z37, .ref z38, .ref z39, .ref z40, .ref z41, .ref z42, .ref z43, .ref z44, .ref z45, .ref z46, .ref z47, .ref z48, .int n49, .int n50, .int n51, .int n52, .int n53, .int n54, .ref z55, .ref z56, .int n57, .int n58, .ref z59, .ref z60, .ref z61, .int n62, .long n63])), (z10, .inl (γ.2.1 0, 10, .inl ab)), (z15, .inl (γ.2.1 0, 16, .inl bh))] : va_W).map some := by
    rw [h0, sA, sB]
    rfl
  rcases tt_cases hT.1 th with h1 | ⟨h1, h2⟩ | ⟨t, ht, rfl⟩
  · refine k_imp (k_and (hs9 am wm [.ref z, .int th] ⟨hH, hMx, ⟨v_ref rfl ham, v_int _, trivial⟩, fun f hf => (by cases hf), fun f hf => (by cases hf)⟩) (c_X12_ring_lo γ l z z2 z10 z11 z12 z13 z14 z15 z16 z17 z18 z19 z22 z23 z24 z25 z26 z27 z28 z29 z30 z31 z32 z33 z36 z37 z38 z39 z40 z41 z42 z43 z44 z45 z46 z47 z48 z55 z56 z59 z60 z61 n0 n1 n3 n4 n5 n6 n7 n8 n9 n20 n21 n34 n35 n49 n50 n51 n52 n53 n54 n57 n58 n62 n63 ab bh S.1 th ha0 h1) ⟨by decide, by decide, by decide, by decide⟩ [0, 2, 7] rfl hce) (fun r w1 hq => ?_)
    obtain ⟨hq0, H, w2, ⟨q5, -⟩, -, -⟩ := hq
    exact ⟨by rw [q5, rV_lo h1], hq0.1, hq0.2.1, hq0.2.2.1⟩
  · refine k_imp (k_and (hs9 am wm [.ref z, .int th] ⟨hH, hMx, ⟨v_ref rfl ham, v_int _, trivial⟩, fun f hf => (by cases hf), fun f hf => (by cases hf)⟩) (c_X12_ring_hi γ l z z2 z10 z11 z12 z13 z14 z15 z16 z17 z18 z19 z22 z23 z24 z25 z26 z27 z28 z29 z30 z31 z32 z33 z36 z37 z38 z39 z40 z41 z42 z43 z44 z45 z46 z47 z48 z55 z56 z59 z60 z61 n0 n1 n3 n4 n5 n6 n7 n8 n9 n20 n21 n34 n35 n49 n50 n51 n52 n53 n54 n57 n58 n62 n63 ab bh S.1 th ha0 h1 h2) ⟨by decide, by decide, by decide, by decide⟩ [0, 2, 7] rfl hce) (fun r w1 hq => ?_)
    obtain ⟨hq0, H, w2, ⟨q5, -⟩, -, -⟩ := hq
    exact ⟨by rw [q5, rV_hi hT.1 h2], hq0.1, hq0.2.1, hq0.2.2.1⟩
  · refine k_imp (k_and (hs9 am wm [.ref z, .int (nI t)] ⟨hH, hMx, ⟨v_ref rfl ham, v_int _, trivial⟩, fun f hf => (by cases hf), fun f hf => (by cases hf)⟩) (c_X12_ring_in γ l z z2 z10 z11 z12 z13 z14 z15 z16 z17 z18 z19 z22 z23 z24 z25 z26 z27 z28 z29 z30 z31 z32 z33 z36 z37 z38 z39 z40 z41 z42 z43 z44 z45 z46 z47 z48 z55 z56 z59 z60 z61 n0 n1 n3 n4 n5 n6 n7 n8 n9 n20 n21 n34 n35 n49 n50 n51 n52 n53 n54 n57 n58 n62 n63 ab bh S.1 t ha0 hT.1 ht) ⟨by decide, by decide, by decide, by decide⟩ [0, 2, 7] rfl hce) (fun r w1 hq => ?_)
    obtain ⟨hq0, H, w2, ⟨q5, -⟩, -, -⟩ := hq
    exact ⟨by rw [q5, ← rV_same hbf, rV_in hT.1 ht], hq0.1, hq0.2.1, hq0.2.2.1⟩

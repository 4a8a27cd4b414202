set_option maxHeartbeats 4000000 in
set_option maxRecDepth 100000 in
theorem mk_model2 (γ : kΓ) (l : Launch) {am : List Nat} {wm : va_W} {z : Nat} {L : Nat → Int32} {gs9 : Nat → Int32} {ob mb : Nat → Nat → Int32} {th b : Int32} (h3 : ∀ k, k < 4 → L k = 0 ∨ L k = 1) (hb01 : b = 0 ∨ b = 1) (hH : qH mD γ am (fun _ _ => False) wm) (hMx : mX wm) (ham : am[0]? = some z) (hL : mL wm L) (hG : mG wm gs9 ob mb) : kM γ l yX12_mark cX12_mark 5 (some .boolean) ({ frames := 1, cells := 0, slots := 0, locals := 24 } : Room) [.ref z, .int th, .int b] wm (fun r w1 => r = some (.int (mkV L th b)) ∧ qH mD γ am (fun _ _ => False) w1 ∧ mX w1 ∧ qK mD mn_451.2.2.2.2.2 wm w1 ∧ mL w1 (mkLa L th b) ∧ ∃ mb' : Nat → Nat → Int32, mG w1 (mkD L th b gs9) (mkD L th b ob) mb' ∧ ∀ j i, j < 5 → i < 8 → (mkD L th b mb j i = 0 ∨ mkD L th b mb j i = 1) → mb' j i = mkD L th b mb j i) := by
  obtain ⟨n0, n1, z2, n3, n4, n5, n6, n7, n8, n9, z10, z11, z12, z13, z14, z15, z16, z17, z18, z19, n20, n21, z22, z23, z24, z25, z26, z27, z28, z29, z30, z31, z32, z33, n34, n35, z36, z37, z38, z39, z40, z41, z42, z43, z44, z45, z46, z47, z48, n49, n50, n51, n52, n53, n54, z55, z56, n57, n58, z59, z60, z61, n62, n63, wr, hwm⟩ := m_z64 hH ham
  have h0 : wm[0]? = some (z, .inr (11, [.int n0, .int n1, .ref z2, .int n3, .int n4, .int n5, .int n6, .long n7, .int n8, .int n9, .ref z10, .ref z11, .ref z12, .ref z13, .ref z14, .ref z15, .ref z16, .ref z17, .ref z18, .ref z19, .int n20, .int n21, .ref z22, .ref z23, .ref z24, .ref z25, .ref z26, .ref z27, .ref z28, .ref z29, .ref z30, .ref z31, .ref z32, .ref z33, .int n34, .long n35, .ref z36, .ref z37, .ref z38, .ref z39, .ref z40, .ref z41, .ref z42, .ref z43, .ref z44, .ref z45, .ref z46, .ref z47, .ref z48, .int n49, .int n50, .int n51, .int n52, .int n53, .int n54, .ref z55, .ref z56, .int n57, .int n58, .ref z59, .ref z60, .ref z61, .int n62, .long n63])) := by rw [hwm]; rfl
  obtain ⟨fs0, f0, f1, f2⟩ := q_objAt hH (q := 0) (g := 0) (ci := 11) rfl rfl ham
  rw [h0] at f0
  cases f0
  obtain ⟨v, e, b9⟩ := f2 48 (by decide)
  cases e
  obtain ⟨z9, e, hz48⟩ := q_sg2 mDok (g := 36) (by decide) b9
  cases e
  obtain ⟨il, s48, -⟩ := q_arrAt hH (q := 36) (g := 36) (tp := 3) rfl rfl (.inr (.inr rfl)) hz48
  obtain ⟨v, e, b9⟩ := f2 36 (by decide)
  cases e
  obtain ⟨z9, e, hz36⟩ := q_sg2 mDok (g := 24) (by decide) b9
  cases e
  obtain ⟨ln, s36, -⟩ := q_arrAt hH (q := 24) (g := 24) (tp := 0) rfl rfl (.inl rfl) hz36
  obtain ⟨v, e, b9⟩ := f2 37 (by decide)
  cases e
  obtain ⟨z9, e, hz37⟩ := q_sg2 mDok (g := 25) (by decide) b9
  cases e
  obtain ⟨wa, s37, -⟩ := q_arrAt hH (q := 25) (g := 25) (tp := 0) rfl rfl (.inl rfl) hz37
  obtain ⟨v, e, b9⟩ := f2 38 (by decide)
  cases e
  obtain ⟨z9, e, hz38⟩ := q_sg2 mDok (g := 26) (by decide) b9
  cases e
  obtain ⟨wb, s38, -⟩ := q_arrAt hH (q := 26) (g := 26) (tp := 0) rfl rfl (.inl rfl) hz38
  obtain ⟨v, e, b9⟩ := f2 39 (by decide)
  cases e
  obtain ⟨z9, e, hz39⟩ := q_sg2 mDok (g := 27) (by decide) b9
  cases e
  obtain ⟨wc9, s39, -⟩ := q_arrAt hH (q := 27) (g := 27) (tp := 0) rfl rfl (.inl rfl) hz39
  obtain ⟨v, e, b9⟩ := f2 40 (by decide)
  cases e
  obtain ⟨z9, e, hz40⟩ := q_sg2 mDok (g := 28) (by decide) b9
  cases e
  obtain ⟨gs, s40, -⟩ := q_arrAt hH (q := 28) (g := 28) (tp := 0) rfl rfl (.inl rfl) hz40
  obtain ⟨v, e, b9⟩ := f2 41 (by decide)
  cases e
  obtain ⟨z9, e, hz41⟩ := q_sg2 mDok (g := 29) (by decide) b9
  cases e
  obtain ⟨go, s41, -⟩ := q_arrAt hH (q := 29) (g := 29) (tp := 0) rfl rfl (.inl rfl) hz41
  obtain ⟨v, e, b9⟩ := f2 42 (by decide)
  cases e
  obtain ⟨z9, e, hz42⟩ := q_sg2 mDok (g := 30) (by decide) b9
  cases e
  obtain ⟨gm, s42, -⟩ := q_arrAt hH (q := 30) (g := 30) (tp := 3) rfl rfl (.inr (.inr rfl)) hz42
  obtain ⟨v, e, b9⟩ := f2 43 (by decide)
  cases e
  obtain ⟨z9, e, hz43⟩ := q_sg2 mDok (g := 31) (by decide) b9
  cases e
  obtain ⟨fs, s43, -⟩ := q_arrAt hH (q := 31) (g := 31) (tp := 0) rfl rfl (.inl rfl) hz43
  obtain ⟨v, e, b9⟩ := f2 46 (by decide)
  cases e
  obtain ⟨z9, e, hz46⟩ := q_sg2 mDok (g := 34) (by decide) b9
  cases e
  obtain ⟨fm9, s46, -⟩ := q_arrAt hH (q := 34) (g := 34) (tp := 0) rfl rfl (.inl rfl) hz46
  have hil : ∀ k, k < 4 → il k = L k := fun k hk => by
    have h8 := hL k hk
    unfold qsl2 at h8
    rw [s48] at h8
    have h8 : (if k < 4 then some (Value.int (il k)) else none) = some (.int (L k)) := h8
    rw [if_pos hk] at h8
    exact Value.int.inj (Option.some.inj h8)
  have hgs : ∀ j, j < 5 → gs j = gs9 j := fun j hj => by
    have h8 := (hG j hj).1
    unfold qsl2 at h8
    rw [s40] at h8
    have h8 : (if j < 5 then some (Value.int (gs j)) else none) = some (.int (gs9 j)) := h8
    rw [if_pos hj] at h8
    exact Value.int.inj (Option.some.inj h8)
  have hgo : ∀ j, j < 5 → ∀ i, i < 8 → go (8 * j + i) = ob j i := fun j hj i hi => by
    have h8 := ((hG j hj).2 i hi).1
    unfold qsl2 at h8
    rw [s41] at h8
    have h8 : (if 8 * j + i < 40 then some (Value.int (go (8 * j + i))) else none) = some (.int (ob j i)) := h8
    rw [if_pos (by omega)] at h8
    exact Value.int.inj (Option.some.inj h8)
  have hgm : ∀ j, j < 5 → ∀ i, i < 8 → gm (8 * j + i) = mb j i := fun j hj i hi => by
    have h8 := ((hG j hj).2 i hi).2
    unfold qsl2 at h8
    rw [s42] at h8
    have h8 : (if 8 * j + i < 40 then some (Value.int (gm (8 * j + i))) else none) = some (.int (mb j i)) := h8
    rw [if_pos (by omega)] at h8
    exact Value.int.inj (Option.some.inj h8)
  have finG : ∀ (w1 : va_W) (H : Heap) (f1 f2 f3 : Nat → Int32) (gs' : Nat → Int32) (ob' mb' : Nat → Nat → Int32), qH mD γ am (fun _ _ => False) w1 → va_P γ.1 vwCl w1 H → va_at γ.1 vwCl (z40, .inl (γ.2.1 0, 5, .inl f1)) H → va_at γ.1 vwCl (z41, .inl (γ.2.1 0, 40, .inl f2)) H → va_at γ.1 vwCl (z42, .inl (γ.2.1 3, 40, .inl f3)) H → (∀ j, j < 5 → f1 j = gs' j) → (∀ j, j < 5 → ∀ i, i < 8 → f2 (8 * j + i) = ob' j i) → (∀ j, j < 5 → ∀ i, i < 8 → f3 (8 * j + i) = mb' j i) → mG w1 gs' ob' mb' := fun w1 H f1 f2 f3 gs' ob' mb' g1 g2 a1 a2 a3 b1 b2 b3 j hj => by
    refine ⟨?_, fun i hi => ⟨?_, ?_⟩⟩
    · rw [q_eI g1 (q := 28) (g := 28) rfl rfl (.inl rfl) hz40 g2 a1 j hj, b1 j hj]
    · rw [q_eI g1 (q := 29) (g := 29) rfl rfl (.inl rfl) hz41 g2 a2 _ (by omega), b2 j hj i hi]
    · rw [q_eI g1 (q := 30) (g := 30) rfl rfl (.inr (.inr rfl)) hz42 g2 a3 _ (by omega), b3 j hj i hi]
  obtain ⟨y9, hy9, hs9⟩ := mx_451 γ l
  cases hy9
  have hs := hs9 am wm [.ref z, .int th, .int b] ⟨hH, hMx, ⟨v_ref rfl ham, v_int _, v_z hb01, trivial⟩, fun f hf => (by cases hf), fun f hf => (by cases hf)⟩
  have hce2 : [wm[0]?, wm[36]?] = ([(z, .inr (11, [.int n0, .int n1, .ref z2, .int n3, .int n4, .int n5, .int n6, .long n7, .int n8, .int n9, .ref z10, .ref z11, .ref z12, .ref z13, .ref z14, .ref z15, .ref z16, .ref z17, .ref z18, .ref z19, .int n20, .int n21, .ref z22, .ref z23, .ref z24, .ref z25, .ref z26, .ref z27, .ref z28, .ref z29, .ref z30, .ref z31, .ref z32, .ref z33, .int n34, .long n35, .ref z36, .ref z37, .ref z38, .ref z39, .ref z40, .ref z41, .ref z42, .ref z43, .ref z44, .ref z45, .ref z46, .ref z47, .ref z48, .int n49, .int n50, .int n51, .int n52, .int n53, .int n54, .ref z55, .ref z56, .int n57, .int n58, .ref z59, .ref z60, .ref z61, .int n62, .long n63])), (z48, .inl (γ.2.1 3, 4, .inl il))] : va_W).map some := by
    rw [h0, s48]
    rfl
  rcases mk_cases th with h | ⟨k, hk, rfl⟩
  · have hM : kM γ l yX12_mark cX12_mark 5 ((some .boolean)) ({ frames := 1, cells := 0, slots := 0, locals := 22 } : Room) [.ref z, .int th, .int b] [(z, .inr (11, [.int n0, .int n1, .ref z2, .int n3, .int n4, .int n5, .int n6, .long n7, .int n8, .int n9, .ref z10, .ref z11, .ref z12, .ref z13, .ref z14, .ref z15, .ref z16, .ref z17, .ref z18, .ref z19, .int n20, .int n21, .ref z22, .ref z23, .ref z24, .ref z25, .ref z26, .ref z27, .ref z28, .ref z29, .ref z30, .ref z31, .ref z32, .ref z33, .int n34, .long n35, .ref z36, .ref z37, .ref z38, .ref z39, .ref z40, .ref z41, .ref z42, .ref z43, .ref z44, .ref z45, .ref z46, .ref z47, .ref z48, .int n49, .int n50, .int n51, .int n52, .int n53, .int n54, .ref z55, .ref z56, .int n57, .int n58, .ref z59, .ref z60, .ref z61, .int n62, .long n63])), (z48, .inl (γ.2.1 3, 4, .inl il))] (fun r w1 => r = some (.int 0) ∧ w1 = [(z, .inr (11, [.int 0, .int n1, .ref z2, .int n3, .int n4, .int n5, .int n6, .long n7, .int n8, .int n9, .ref z10, .ref z11, .ref z12, .ref z13, .ref z14, .ref z15, .ref z16, .ref z17, .ref z18, .ref z19, .int n20, .int n21, .ref z22, .ref z23, .ref z24, .ref z25, .ref z26, .ref z27, .ref z28, .ref z29, .ref z30, .ref z31, .ref z32, .ref z33, .int n34, .long n35, .ref z36, .ref z37, .ref z38, .ref z39, .ref z40, .ref z41, .ref z42, .ref z43, .ref z44, .ref z45, .ref z46, .ref z47, .ref z48, .int n49, .int n50, .int n51, .int n52, .int n53, .int n54, .ref z55, .ref z56, .int n57, .int n58, .ref z59, .ref z60, .ref z61, .int n62, .long n63])), (z48, .inl (γ.2.1 3, 4, .inl il))]) := by
      rcases h with h1 | h4
      · exact c_mk_lo γ l z z2 z10 z11 z12 z13 z14 z15 z16 z17 z18 z19 z22 z23 z24 z25 z26 z27 z28 z29 z30 z31 z32 z33 z36 z37 z38 z39 z40 z41 z42 z43 z44 z45 z46 z47 z48 z55 z56 z59 z60 z61 n0 n1 n3 n4 n5 n6 n7 n8 n9 n20 n21 n34 n35 n49 n50 n51 n52 n53 n54 n57 n58 n62 n63 il th b h1
      · by_cases h1 : th < 0
        · exact c_mk_lo γ l z z2 z10 z11 z12 z13 z14 z15 z16 z17 z18 z19 z22 z23 z24 z25 z26 z27 z28 z29 z30 z31 z32 z33 z36 z37 z38 z39 z40 z41 z42 z43 z44 z45 z46 z47 z48 z55 z56 z59 z60 z61 n0 n1 n3 n4 n5 n6 n7 n8 n9 n20 n21 n34 n35 n49 n50 n51 n52 n53 n54 n57 n58 n62 n63 il th b h1
        · exact c_mk_hi γ l z z2 z10 z11 z12 z13 z14 z15 z16 z17 z18 z19 z22 z23 z24 z25 z26 z27 z28 z29 z30 z31 z32 z33 z36 z37 z38 z39 z40 z41 z42 z43 z44 z45 z46 z47 z48 z55 z56 z59 z60 z61 n0 n1 n3 n4 n5 n6 n7 n8 n9 n20 n21 n34 n35 n49 n50 n51 n52 n53 n54 n57 n58 n62 n63 il th b h1 (lt_34 h4)
    refine k_imp (k_andF hs hM ⟨by decide, by decide, by decide, by decide⟩ [0, 36] rfl hce2) (fun r w1 hq => ?_)
    obtain ⟨hq0, H, w2, ⟨q5, q6⟩, k1, k2, k3⟩ := hq
    subst q6
    refine ⟨by rw [q5, (mk_lo h).1], hq0.1, hq0.2.1, hq0.2.2.1, ?_, mb, ?_, fun j i _ _ _ => by rw [mkD_lo h]⟩
    rotate_left
    · rw [mkD_lo h, mkD_lo h]
      exact finG w1 H gs go gm gs9 ob mb hq0.1 k1 (k3 28 _ s40 (by decide)) (k3 29 _ s41 (by decide)) (k3 30 _ s42 (by decide)) hgs hgo hgm
    rw [(mk_lo h).2]
    intro j hj
    rw [q_eI hq0.1 (q := 36) (g := 36) rfl rfl (.inr (.inr rfl)) hz48 k1 (k2 1 _ rfl) j hj, hil j hj]
  · have hce : [wm[0]?, wm[36]?, wm[24]?, wm[25]?, wm[26]?, wm[27]?, wm[28]?, wm[29]?, wm[30]?, wm[31]?, wm[34]?] = ([(z, .inr (11, [.int n0, .int n1, .ref z2, .int n3, .int n4, .int n5, .int n6, .long n7, .int n8, .int n9, .ref z10, .ref z11, .ref z12, .ref z13, .ref z14, .ref z15, .ref z16, .ref z17, .ref z18, .ref z19, .int n20, .int n21, .ref z22, .ref z23, .ref z24, .ref z25, .ref z26, .ref z27, .ref z28, .ref z29, .ref z30, .ref z31, .ref z32, .ref z33, .int n34, .long n35, .ref z36, .ref z37, .ref z38, .ref z39, .ref z40, .ref z41, .ref z42, .ref z43, .ref z44, .ref z45, .ref z46, .ref z47, .ref z48, .int n49, .int n50, .int n51, .int n52, .int n53, .int n54, .ref z55, .ref z56, .int n57, .int n58, .ref z59, .ref z60, .ref z61, .int n62, .long n63])), (z48, .inl (γ.2.1 3, 4, .inl il)), (z36, .inl (γ.2.1 0, 6, .inl ln)), (z37, .inl (γ.2.1 0, 240, .inl wa)), (z38, .inl (γ.2.1 0, 240, .inl wb)), (z39, .inl (γ.2.1 0, 240, .inl wc9)), (z40, .inl (γ.2.1 0, 5, .inl gs)), (z41, .inl (γ.2.1 0, 40, .inl go)), (z42, .inl (γ.2.1 3, 40, .inl gm)), (z43, .inl (γ.2.1 0, 133, .inl fs)), (z46, .inl (γ.2.1 0, 532, .inl fm9))] : va_W).map some := by
      rw [h0, s48, s36, s37, s38, s39, s40, s41, s42, s43, s46]
      rfl
    have fin : ∀ (w1 : va_W) (H : Heap) (f9 : Nat → Int32) (L9 : Nat → Int32), qH mD γ am (fun _ _ => False) w1 → va_P γ.1 vwCl w1 H → va_at γ.1 vwCl (z48, .inl (γ.2.1 3, 4, .inl f9)) H → (∀ j, j < 4 → f9 j = L9 j) → mL w1 L9 := fun w1 H f9 L9 g1 g2 g3 g4 j hj => by
      rw [q_eI g1 (q := 36) (g := 36) rfl rfl (.inr (.inr rfl)) hz48 g2 g3 j hj, g4 j hj]
    rcases hb01 with rfl | rfl
    · refine k_imp (k_and hs (c_mk_b0 γ l z z2 z10 z11 z12 z13 z14 z15 z16 z17 z18 z19 z22 z23 z24 z25 z26 z27 z28 z29 z30 z31 z32 z33 z36 z37 z38 z39 z40 z41 z42 z43 z44 z45 z46 z47 z48 z55 z56 z59 z60 z61 n0 n1 n3 n4 n5 n6 n7 n8 n9 n20 n21 n34 n35 n49 n50 n51 n52 n53 n54 n57 n58 n62 n63 il ln wa wb wc9 gs go gm fs fm9 k hk) ⟨by decide, by decide, by decide, by decide⟩ [0, 36, 24, 25, 26, 27, 28, 29, 30, 31, 34] rfl hce) (fun r w1 hq => ?_)
      obtain ⟨hq0, H, w2, ⟨k_ln, k_wa, k_wb, k_wc, k_mk, q5, q6⟩, k1, k2⟩ := hq
      subst q6
      refine ⟨by rw [q5, (mk_in hk).1]; rfl, hq0.1, hq0.2.1, hq0.2.2.1, fin w1 H _ _ hq0.1 k1 (k2 1 _ rfl) (fun j hj => ?_), fun j i => lgZ gm 0 (1 + k) 8 (8 * j + i), finG w1 H _ _ _ _ _ _ hq0.1 k1 (k2 6 _ rfl) (k2 7 _ rfl) (k2 8 _ rfl) (fun j hj => ?_) (fun j hj i hi => ?_) (fun _ _ _ _ => rfl), fun j i hj hi h01 => ?_⟩
      rotate_left
      · rw [mkD_in hk, if_pos rfl]
        unfold upd
        by_cases e : j = k + 1
        · rw [if_pos (by omega), if_pos e]; exact hgs 0 (by decide)
        · rw [if_neg (by omega), if_neg e]; exact hgs j hj
      · rw [mkD_in hk, if_pos rfl]
        unfold lgP
        by_cases e : j = k + 1
        · rw [if_pos (by omega), if_pos e, show 8 * 0 + (8 * j + i - 8 * (1 + k)) = 8 * 0 + i by omega]; exact hgo 0 (by decide) i hi
        · rw [if_neg (by omega), if_neg e]; exact hgo j hj i hi
      · rw [mkD_in hk, if_pos rfl] at h01 ⊢
        show lgZ gm 0 (1 + k) 8 (8 * j + i) = _
        unfold lgZ
        by_cases e : j = k + 1
        · simp only [if_pos e] at h01 ⊢
          rw [if_pos (by omega), show 8 * 0 + (8 * j + i - 8 * (1 + k)) = 8 * 0 + i by omega, hgm 0 (by decide) i hi]
          exact nar01 h01
        · simp only [if_neg e] at h01 ⊢
          rw [if_neg (by omega)]; exact hgm j hj i hi
      rw [(mk_in hk).2, if_pos rfl]
      unfold upd
      by_cases hjk : j = k
      · rw [if_pos hjk, if_pos hjk]
      · rw [if_neg hjk, if_neg hjk]; exact hil j hj
    · by_cases hz : L k = 0
      · refine k_imp (k_andF hs (c_mk_no γ l z z2 z10 z11 z12 z13 z14 z15 z16 z17 z18 z19 z22 z23 z24 z25 z26 z27 z28 z29 z30 z31 z32 z33 z36 z37 z38 z39 z40 z41 z42 z43 z44 z45 z46 z47 z48 z55 z56 z59 z60 z61 n0 n1 n3 n4 n5 n6 n7 n8 n9 n20 n21 n34 n35 n49 n50 n51 n52 n53 n54 n57 n58 n62 n63 il k hk ((hil k hk).trans hz)) ⟨by decide, by decide, by decide, by decide⟩ [0, 36] rfl hce2) (fun r w1 hq => ?_)
        obtain ⟨hq0, H, w2, ⟨q5, q6⟩, k1, k2, k3⟩ := hq
        subst q6
        refine ⟨by rw [q5, (mk_in hk).1, if_neg (by decide), if_pos hz], hq0.1, hq0.2.1, hq0.2.2.1, fin w1 H _ _ hq0.1 k1 (k2 1 _ rfl) (fun j hj => ?_), mb, ?_, fun j i _ _ _ => by rw [mkD_in hk, if_neg (by decide), if_pos hz]⟩
        rotate_left
        · rw [mkD_in hk, mkD_in hk]
          simp only [if_neg (show ¬ (1 : Int32) = 0 by decide), if_pos hz]
          exact finG w1 H gs go gm gs9 ob mb hq0.1 k1 (k3 28 _ s40 (by decide)) (k3 29 _ s41 (by decide)) (k3 30 _ s42 (by decide)) hgs hgo hgm
        rw [(mk_in hk).2, if_neg (by decide)]
        exact hil j hj
      · refine k_imp (k_and hs (c_mk_b1 γ l z z2 z10 z11 z12 z13 z14 z15 z16 z17 z18 z19 z22 z23 z24 z25 z26 z27 z28 z29 z30 z31 z32 z33 z36 z37 z38 z39 z40 z41 z42 z43 z44 z45 z46 z47 z48 z55 z56 z59 z60 z61 n0 n1 n3 n4 n5 n6 n7 n8 n9 n20 n21 n34 n35 n49 n50 n51 n52 n53 n54 n57 n58 n62 n63 il ln wa wb wc9 gs go gm fs fm9 k hk (fun h => hz ((hil k hk).symm.trans h))) ⟨by decide, by decide, by decide, by decide⟩ [0, 36, 24, 25, 26, 27, 28, 29, 30, 31, 34] rfl hce) (fun r w1 hq => ?_)
        obtain ⟨hq0, H, w2, ⟨k_ln, k_wa, k_wb, k_wc, k_s, q5, q6⟩, k1, k2⟩ := hq
        subst q6
        refine ⟨by rw [q5, (mk_in hk).1, if_neg (by decide), if_neg hz], hq0.1, hq0.2.1, hq0.2.2.1, fin w1 H _ _ hq0.1 k1 (k2 1 _ rfl) (fun j hj => ?_), fun j i => lgZ gm (1 + k) 0 8 (8 * j + i), finG w1 H _ _ _ _ _ _ hq0.1 k1 (k2 6 _ rfl) (k2 7 _ rfl) (k2 8 _ rfl) (fun j hj => ?_) (fun j hj i hi => ?_) (fun _ _ _ _ => rfl), fun j i hj hi h01 => ?_⟩
        rotate_left
        · rw [mkD_in hk, if_neg (by decide), if_neg hz]
          unfold upd
          by_cases e : j = 0
          · rw [if_pos e, if_pos e, hgs (1 + k) (by omega), Nat.add_comm 1 k]
          · rw [if_neg e, if_neg e]; exact hgs j hj
        · rw [mkD_in hk, if_neg (by decide), if_neg hz]
          unfold lgP
          by_cases e : j = 0
          · rw [if_pos (by omega), if_pos e, show 8 * (1 + k) + (8 * j + i - 8 * 0) = 8 * (k + 1) + i by omega]; exact hgo (k + 1) (by omega) i hi
          · rw [if_neg (by omega), if_neg e]; exact hgo j hj i hi
        · rw [mkD_in hk, if_neg (by decide), if_neg hz] at h01 ⊢
          show lgZ gm (1 + k) 0 8 (8 * j + i) = _
          unfold lgZ
          by_cases e : j = 0
          · simp only [if_pos e] at h01 ⊢
            rw [if_pos (by omega), show 8 * (1 + k) + (8 * j + i - 8 * 0) = 8 * (k + 1) + i by omega, hgm (k + 1) (by omega) i hi]
            exact nar01 h01
          · simp only [if_neg e] at h01 ⊢
            rw [if_neg (by omega)]; exact hgm j hj i hi
        rw [(mk_in hk).2, if_neg (by decide)]
        unfold upd
        by_cases hjk : j = k
        · rw [if_pos hjk, hjk]
          exact ((h3 k hk).resolve_left hz).symm
        · rw [if_neg hjk]; exact hil j hj
def mnY2 : qCon := (mn_59.1, [(2, 0, 0)], [], [], [(some (0, 0, 0), [(28, 0, 0, 0), (36, 0, 0, 0), (36, 1, 0, 0), (36, 2, 0, 0), (36, 3, 0, 0)], [], [], none)], bM2)
theorem yd_go : qgo mD bM2 mXr mtb_RX12 mMT [] 20 500 2 1 mnY2 [(3, 0, 0)] [] pg_X12_abbey [] [] 0 [] [] 0 none 900 bS32 32 = true := by decide +kernel
theorem yd_sg : qsegs mD bM2 mXr mtb_RX12 mMT [] 20 500 2 1 mnY2 [(3, 0, 0)] [] pg_X12_abbey [] [] 0 [] [] 900 = true := by decide +kernel
set_option maxHeartbeats 4000000 in
set_option maxRecDepth 100000 in
theorem ab_model4 (γ : kΓ) (l : Launch) {f : Nat → Int32} {n : Nat} (hn : n ≤ 1000) {adr : List Nat} {wm : va_W} {z : Nat} (hH : qH mD γ adr (fun _ _ => False) wm) (hMx : mX wm) (ham : adr[0]? = some z) {S : tS} {L : Nat → Int32} (hXM : XM f n wm) (hT : mTo wm S) (hL : mL wm L) {gs : Nat → Int32} {ob mb : Nat → Nat → Int32} (hG : mG wm gs ob mb) : kM γ l yX12_abbey cX12_abbey 2 (some .int) ({ frames := 20, cells := 0, slots := 0, locals := 500 } : Room) [.ref z] wm (fun r w1 => r = some (.int (fvA f n)) ∧ qH mD γ adr (fun _ _ => False) w1 ∧ mX w1 ∧ qK mD mn_59.2.2.2.2.2 wm w1 ∧ qsl2 w1 0 1 = some (.int 0) ∧ (¬ fvA f n = 0 → mTo w1 S ∧ mL w1 L ∧ mG w1 gs ob mb) ∧ (fvA f n = 0 → (∃ b', mRd f n b' ∧ mTd w1 b') ∧ mL w1 (fun _ => 0) ∧ qsl2 w1 28 0 = some (.int 0))) := by
  refine k_ofW (by decide) (by show 1 ≤ 2; decide) ?_
  intro p e s m below meth cd A ls hC hr hlocks hname hw hl
  have hx := hC.1
  have hb := hC.2.1
  have hρ0 : qr0 mD adr 0 = some z := by
    unfold qr0
    rw [if_pos (by decide)]
    exact ham
  refine q_seg (c := qNo [(0, 0, 0)]) (B := []) (fr := 20) (lc := 500) (w0 := wm) (av := []) (ea := []) (pa := []) (X := mX) (σ := qsl []) (ρ := qr0 mD adr) (lv := lv_args 0 [Value.ref z]) hC (q_Dok mDok) rfl (m_xok adr) mtk_RX12 q_f0 ⟨Nat.le_refl _, Nat.le_refl _⟩ pk_X12_abbey q_noE q_noR yc_c1 ?_ hw hl (q_Nof trivial (fun a b d h => by cases h)) ⟨⟨⟨rfl, .inr (.inr (.inr ⟨rfl, z, rfl, hρ0⟩))⟩, trivial⟩, trivial⟩ (q_Mof hH (fun n k av h => by cases h)) hMx q_K0
  intro k hk
  rw [List.mem_singleton] at hk
  subst hk
  intro σ2 ρ2 lv2 st2 ls2 ws2 H2 locs2 hw2 hl2 hN2 hF2 hM2 hx2 hK2 hσ2
  have hH2 := q_H00 hM2 (r := [])
  have hXM2 : XM f n ws2 := ⟨(q_kp2 hH hH2 hK2 (q := 0) (g := 0) (k := 1) rfl (by decide)).trans hXM.1, fun k hk => (q_kp2 hH hH2 hK2 (q := 1) (g := 1) (k := k) rfl (by simp [qmod, qNo])).trans (hXM.2 k hk)⟩
  have hT2 : mTo ws2 S := mTo_keep hH hH2 hK2 (by decide) hT
  refine q_segC (ms := mn_58.2.2.2.2.2) (fr := 20) (lc := 500) (n0 := 0) (n1 := 0) (lk := []) (σ := σ2) (ρ := ρ2) (w0 := ws2) (X := fun w => mX w ∧ XM f n w) (X' := fun r w => (mY w ∧ (fvA f n = 0 → ∃ b', mRd f n b' ∧ mNw w b') ∧ qsl2 w 0 1 = some (.int 0)) ∧ (fvA f n = 0 → r = some (.int 1)) ∧ (¬ fvA f n = 0 → r = some (.int 0) ∧ qsl2 w 0 9 = some (.int (fvA f n)))) (B := [mnW]) (S := bS6) (pc := 6) (cuts := [((9, bS9a, (0, [])) : qCut), (9, bS9b, (0, []))]) hC (q_Dok mDok) mtk_RX12 (q_f1 (ra_model2 γ l hn) q_f0) ⟨Nat.le_refl _, Nat.le_refl _⟩ pk_X12_abbey (show qat pg_X12_abbey 6 = some (.invokevirtual 331, 3) from rfl) yc_c2 ?_ hw2 hl2 hN2 hF2 hM2 ⟨hx2, hXM2⟩ q_K0
  intro k hk σ3 ρ3 lv3 r3 st3 ls3 ws3 H3 locs3 hw3 hl3 hN3 hF3 hM3 hx3 hK3 hσ3
  have hH3 : qH mD γ adr (fun _ _ => False) ws3 := by
    rcases List.mem_cons.mp hk with h | hk
    · subst h; exact q_H00 hM3 (r := [])
    · have h := List.mem_singleton.mp hk
      subst h; exact q_H00 hM3 (r := [])
  obtain ⟨hx3, hx4, hx5⟩ := hx3
  rcases List.mem_cons.mp hk with h | hk
  · subst h
    have hne : ¬ fvA f n = 0 := fun h => by
      have e9 := hx4 h
      subst e9
      have h9 := hF3.2.1
      rcases h9 with ⟨t, _⟩ | ⟨_, xx, e1, e2⟩ | ⟨t, _⟩ | ⟨t, _⟩
      · exact absurd t (by decide)
      · cases e1
        exact absurd e2 (by decide)
      · exact absurd t (by decide)
      · exact absurd t (by decide)
    obtain ⟨e9, hsl⟩ := hx5 hne
    subst e9
    have hst : st3 = [] := by
      have h9 := F2.len hF3.2
      cases st3 with
      | nil => rfl
      | cons a b =>
        have h9 : 1 = (Value.int 0 :: a :: b).length := h9
        simp only [List.length_cons] at h9
        omega
    subst hst
    have hl0 : lv_has ls3 2 [(0, .ref z)] := by
      match lv3, hF3.1, hl3 with
      | [(j, v)], ⟨⟨e1, e2⟩, _⟩, hl3 =>
        have e1 : 0 = j := e1
        subst e1
        rcases e2 with ⟨t, _⟩ | ⟨t, _⟩ | ⟨t, _⟩ | ⟨_, nn, rfl, hρ⟩
        · exact absurd t (by decide)
        · exact absurd t (by decide)
        · exact absurd t (by decide)
        · have h9 := hM3.1 0 (by decide)
          have hρ : ρ3 0 = some nn := hρ
          rw [h9, ham] at hρ
          cases hρ
          exact hl3
    obtain ⟨n0, n1, z2, n3, n4, n5, n6, n7, n8, n9, z10, z11, z12, z13, z14, z15, z16, z17, z18, z19, n20, n21, z22, z23, z24, z25, z26, z27, z28, z29, z30, z31, z32, z33, n34, n35, z36, z37, z38, z39, z40, z41, z42, z43, z44, z45, z46, z47, z48, n49, n50, n51, n52, n53, n54, z55, z56, n57, n58, z59, z60, z61, n62, n63, wr9, rfl⟩ := m_z64 hH3 ham
    have e9 : n9 = fvA f n := Value.int.inj (Option.some.inj hsl)
    refine W.eq (g2 := F0 m 9 ls3 [.int 0]) rfl ?_
    refine lv_if_ne (tgt := 17) hx hb dX12_abbey_9 (by decide) (fun h => absurd rfl h) (fun _ => ?_)
    refine lv_aload_n hx hb dX12_abbey_12 rfl (lv_at hl0 0 rfl) ?_
    refine fg_RX12_178 hC hw3 0 rfl rfl dX12_abbey_13 ?_
    exact k_iret hC hr hlocks hw3 (List.range _) (q_nd _) (q_all _) ⟨show some (Value.int n9) = some (.int (fvA f n)) by rw [e9], hH3, hx3.1.1, q_Kt hH2 (by decide) (q_Kt hH (by decide) q_K0 hK2) hK3, hx3.2.2, fun _ => ⟨mTo_keep hH2 hH3 hK3 (by decide) hT2, mL_keep hH2 hH3 hK3 (by decide) (mL_keep hH hH2 hK2 (by decide) hL), mG_keep hH2 hH3 hK3 (by decide +kernel) (mG_keep hH hH2 hK2 (by decide +kernel) hG)⟩, fun h => absurd h hne⟩ (Nat.le_refl _) (Nat.le_refl _) dX12_abbey_16
  · have h := List.mem_singleton.mp hk
    subst h
    have h0 : fvA f n = 0 := by
      by_cases h : fvA f n = 0
      · exact h
      · exfalso
        have e9 := (hx5 h).1
        subst e9
        have h9 := hF3.2.1
        rcases h9 with ⟨t, _⟩ | ⟨_, xx, e1, e2⟩ | ⟨t, _⟩ | ⟨t, _⟩
        · exact absurd t (by decide)
        · cases e1
          exact absurd e2 (by decide)
        · exact absurd t (by decide)
        · exact absurd t (by decide)
    refine q_seg (c := qNo mn_59.2.2.2.2.2) (B := []) (fr := 20) (lc := 500) (w0 := ws3) (av := []) (ea := []) (pa := []) (n0 := 0) (X := fun w => mY w ∧ (∃ b', mRd f n b' ∧ mNw w b') ∧ qsl2 w 0 1 = some (.int 0)) (σ := σ3) (ρ := ρ3) hC (q_Dok mDok) rfl (mY_ok2 adr) mtk_RX12 q_f0 ⟨Nat.le_refl _, Nat.le_refl _⟩ pk_X12_abbey q_noE q_noR yc_c4 ?_ hw3 hl3 hN3 hF3 hM3 ⟨hx3.1, hx3.2.1 h0, hx3.2.2⟩ q_K0
    intro k hk
    rw [List.mem_singleton] at hk
    subst hk
    intro σ4 ρ4 lv4 st4 ls4 ws4 H4 locs4 hw4 hl4 hN4 hF4 hM4 hx4 hK4 hσ4
    refine q_segC (ms := mn_59.2.2.2.2.2) (fr := 6) (lc := 130) (n0 := 0) (n1 := 0) (lk := []) (σ := σ4) (ρ := ρ4) (w0 := ws3) (X := fun w => mY w ∧ (∃ b', mRd f n b' ∧ mNw w b') ∧ qsl2 w 0 1 = some (.int 0)) (X' := fun _ w => mX w ∧ (∃ b', mRd f n b' ∧ mTd w b') ∧ qsl2 w 0 1 = some (.int 0)) (B := [mn_9]) (S := bS18) (pc := 18) (cuts := [((21, bS21, (0, [])) : qCut)]) hC (q_Dok mDok) mtk_RX12 (q_f1 (la_model γ l) q_f0) ⟨by decide, by decide⟩ pk_X12_abbey (show qat pg_X12_abbey 18 = some (.invokevirtual 334, 3) from rfl) b_c5 ?_ hw4 hl4 hN4 hF4 hM4 hx4 hK4
    intro k hk
    rw [List.mem_singleton] at hk
    subst hk
    intro σ5 ρ5 lv5 r5 st5 ls5 ws5 H5 locs5 hw5 hl5 hN5 hF5 hM5 hx5 hK5 hσ5
    have hH5 := q_H00 hM5 (r := [])
    refine q_seg (c := qNo bM) (B := [mn_0]) (fr := 6) (lc := 130) (ea := []) (pa := []) (n0 := 0) (w0 := ws5) (av := []) (X := fun _ => True) (σ := σ5) (ρ := ρ5) hC (q_Dok mDok) rfl (fun _ _ _ _ _ _ _ _ _ _ => trivial) mtk_RX12 (q_f1 (ms_0 γ l) q_f0) ⟨by decide, by decide⟩ pk_X12_abbey q_noE q_noR b_c6 ?_ hw5 hl5 hN5 hF5 hM5 trivial q_K0
    intro k hk
    rw [List.mem_singleton] at hk
    subst hk
    intro σ6 ρ6 lv6 st6 ls6 ws6 H6 locs6 hw6 hl6 hN6 hF6 hM6 hx6 hK6 hσ6
    have hH6 := q_H00 hM6 (r := [])
    obtain ⟨z8, z1, z2⟩ := q_gvM hM6 hw6.2.1.1 (n := 24) (k := 0) (av := (1, 0, 0)) (by decide) (by decide) rfl (.head _)
    have z2 : (0 : Int) = z8 := Option.some.inj z2
    subst z2
    have hX : mX ws6 := m_ln0 0 hH5 hH6 hK6 (fun j _ => by simp [qmod, bM, qNo]) (fun j _ => by simp [qmod, bM, qNo]) (fun j _ => by simp [qmod, bM, qNo]) (fun r _ h => by
      show qmod [(24, 0, 0), (31, 0, 132)] 24 r = false
      unfold qmod
      rw [List.any_eq_false]
      intro m hm hc
      simp only [List.mem_cons, List.mem_nil_iff, or_false] at hm
      simp only [Bool.and_eq_true, beq_iff_eq, Nat.ble_eq] at hc
      rcases hm with rfl | rfl <;> simp only at hc <;> omega) (fun j _ => by simp [qmod, bM, qNo]) (m_gv z1) hx5.1
    obtain ⟨b1, hb1, hb2⟩ := hx5.2.1
    have hT6 : mTd ws6 b1 := mTd_keep hH5 hH6 hK6 (by decide) hb2
    have hz6 : qsl2 ws6 0 1 = some (.int 0) := (q_kp2 hH5 hH6 hK6 (q := 0) (g := 0) (k := 1) rfl (by decide)).trans hx5.2.2
    have hE : ∀ σ : qσ, qEn σ ws6 [Value.ref z] [(3, 0, 0)] [] mnY2 := fun σ => ⟨fun i a h1 h2 => by
        match i, h1 with
        | 0, h1 => cases h1; omega, trivial⟩
    exact q_mid (B := []) (fr := 20) (lc := 500) (c := mnY2) (ea := [(3, 0, 0)]) (pa := []) (n0 := 0) (X := mX) (σ := σ6) (ρ := ρ6) (av := [.ref z]) (w0 := ws6) hC (q_Dok mDok) rfl (m_xok adr) mtk_RX12 q_f0 ⟨Nat.le_refl _, Nat.le_refl _⟩ pk_X12_abbey (hE _) (fun σ => q_rtX (q_rt (X := mX) hC hlocks hr (.inr (.inl ⟨rfl, rfl⟩)) σ) (fun r w c => by
      have cz : qsl2 w 28 0 = some (.int 0) := q_post0 (by decide +kernel) c
      have cl : mL w (fun _ => 0) := fun k hk => by
        have : k = 0 ∨ k = 1 ∨ k = 2 ∨ k = 3 := by omega
        rcases this with rfl | rfl | rfl | rfl
        · exact q_post0 (by decide +kernel) c
        · exact q_post0 (by decide +kernel) c
        · exact q_post0 (by decide +kernel) c
        · exact q_post0 (by decide +kernel) c
      obtain ⟨c1, c2, c3, t, t1, t2⟩ := c
      refine ⟨?_, c1, c2, q_Kt hH6 (by decide) (q_Kt hH5 (by decide) (q_Kt hH3 (by decide) (q_Kt hH2 (by decide) (q_Kt hH (by decide) q_K0 hK2) hK3) hK5) hK6) c3, (q_kp2 hH6 c1 c3 (q := 0) (g := 0) (k := 1) rfl (by decide)).trans hz6, fun h => absurd h0 h, fun _ => ⟨⟨b1, hb1, mTd_keep hH6 c1 c3 (by decide) hT6⟩, cl, cz⟩⟩
      have t1 : t ∈ [((some (0, 0, 0), [(28, 0, 0, 0), (36, 0, 0, 0), (36, 1, 0, 0), (36, 2, 0, 0), (36, 3, 0, 0)], [], [], none) : qAlt)] := t1
      rw [List.mem_singleton] at t1
      subst t1
      rcases t2.1 with ⟨h3, _⟩ | ⟨ty, v, h3, h4, h5⟩
      · cases h3
      · cases h3
        obtain ⟨x9, e9, c9⟩ := h5.1 rfl
        rw [h4, e9, h0]
        have e : x9 = 0 := Int32.toInt_inj.mp (show x9.toInt = (0 : Int32).toInt by
          have h1 : (0 : Int) ≤ x9.toInt := c9.1
          have h2 : x9.toInt ≤ (0 : Int) := c9.2
          rw [show (0 : Int32).toInt = 0 from by decide]; omega)
        rw [e])) rfl yd_go yd_sg hw6 hl6 hN6 hF6 hM6 hX q_K0

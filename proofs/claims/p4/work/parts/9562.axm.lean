/-! the model: readsAll on the typed world -/
def XM (f : Nat → Int32) (n : Nat) (w : va_W) : Prop := qsl2 w 0 1 = some (.int (nI n)) ∧ ∀ k, k < n → qsl2 w 1 k = some (.int (f k))
def mnW : qCon := ((mn_58.1.1, 6, 200), mn_58.2)
set_option maxHeartbeats 4000000 in
set_option maxRecDepth 100000 in
theorem ra_model (γ : kΓ) (l : Launch) {f : Nat → Int32} {n : Nat} (hn : n ≤ 1000) : qSem2 γ l mD (fun w => mX w ∧ XM f n w) (fun r w => mY w ∧ (fvA f n = 0 → r = some (.int 1)) ∧ (¬ fvA f n = 0 → r = some (.int 0) ∧ qsl2 w 0 9 = some (.int (fvA f n)))) mMT mnW := by
  obtain ⟨y9, hy9, hs9⟩ := my_58 γ l
  cases hy9
  refine ⟨_, rfl, fun adr ws av hp => ?_⟩
  obtain ⟨p1, ⟨p2, px⟩, p3, p4, p5⟩ := hp
  match av, p3 with
  | [v0], ⟨hv0, hv1⟩ =>
    obtain ⟨z, rfl, hz⟩ := q_sg2 mDok (g := 0) (by decide) hv0
    obtain ⟨n0, n1, z2, n3, n4, n5, n6, n7, n8, n9, z10, z11, z12, z13, z14, z15, z16, z17, z18, z19, n20, n21, z22, z23, z24, z25, z26, z27, z28, z29, z30, z31, z32, z33, n34, n35, z36, z37, z38, z39, z40, z41, z42, z43, z44, z45, z46, z47, z48, n49, n50, n51, n52, n53, n54, z55, z56, n57, n58, z59, z60, z61, n62, n63, wr9, hwm⟩ := m_z64 p1 hz
    have h0 : ws[0]? = some (z, .inr (11, [.int n0, .int n1, .ref z2, .int n3, .int n4, .int n5, .int n6, .long n7, .int n8, .int n9, .ref z10, .ref z11, .ref z12, .ref z13, .ref z14, .ref z15, .ref z16, .ref z17, .ref z18, .ref z19, .int n20, .int n21, .ref z22, .ref z23, .ref z24, .ref z25, .ref z26, .ref z27, .ref z28, .ref z29, .ref z30, .ref z31, .ref z32, .ref z33, .int n34, .long n35, .ref z36, .ref z37, .ref z38, .ref z39, .ref z40, .ref z41, .ref z42, .ref z43, .ref z44, .ref z45, .ref z46, .ref z47, .ref z48, .int n49, .int n50, .int n51, .int n52, .int n53, .int n54, .ref z55, .ref z56, .int n57, .int n58, .ref z59, .ref z60, .ref z61, .int n62, .long n63])) := by rw [hwm]; rfl
    obtain ⟨fs0, f0, f1, f2⟩ := q_objAt p1 (q := 0) (g := 0) (ci := 11) rfl rfl hz
    rw [h0] at f0
    cases f0
    obtain ⟨v, e, b9⟩ := f2 2 (by decide)
    cases e
    obtain ⟨z9, e, hz2⟩ := q_sg2 mDok (g := 1) (by decide) b9
    cases e
    obtain ⟨g0, w2, -⟩ := q_arrAt p1 (q := 1) (g := 1) (tp := 0) rfl rfl (.inl rfl) hz2
    obtain ⟨v, e, b9⟩ := f2 10 (by decide)
    cases e
    obtain ⟨z9, e, hz10⟩ := q_sg2 mDok (g := 2) (by decide) b9
    cases e
    obtain ⟨c_abbey, w10, -⟩ := q_arrAt p1 (q := 2) (g := 2) (tp := 0) rfl rfl (.inl rfl) hz10
    obtain ⟨v, e, b9⟩ := f2 11 (by decide)
    cases e
    obtain ⟨z9, e, hz11⟩ := q_sg2 mDok (g := 3) (by decide) b9
    cases e
    obtain ⟨c_thoughtName, w11⟩ := q_arrLp p1 (q := 3) (g := 3) rfl rfl hz11
    obtain ⟨v, e, b9⟩ := f2 12 (by decide)
    cases e
    obtain ⟨z9, e, hz12⟩ := q_sg2 mDok (g := 4) (by decide) b9
    cases e
    obtain ⟨c_tenantName, w12⟩ := q_arrLp p1 (q := 4) (g := 4) rfl rfl hz12
    obtain ⟨v, e, b9⟩ := f2 13 (by decide)
    cases e
    obtain ⟨z9, e, hz13⟩ := q_sg2 mDok (g := 5) (by decide) b9
    cases e
    obtain ⟨c_worthOf, w13, -⟩ := q_arrAt p1 (q := 5) (g := 5) (tp := 0) rfl rfl (.inl rfl) hz13
    obtain ⟨v, e, b9⟩ := f2 14 (by decide)
    cases e
    obtain ⟨z9, e, hz14⟩ := q_sg2 mDok (g := 6) (by decide) b9
    cases e
    obtain ⟨c_part, w14, -⟩ := q_arrAt p1 (q := 6) (g := 6) (tp := 0) rfl rfl (.inl rfl) hz14
    obtain ⟨v, e, b9⟩ := f2 15 (by decide)
    cases e
    obtain ⟨z9, e, hz15⟩ := q_sg2 mDok (g := 7) (by decide) b9
    cases e
    obtain ⟨c_behind, w15, -⟩ := q_arrAt p1 (q := 7) (g := 7) (tp := 0) rfl rfl (.inl rfl) hz15
    obtain ⟨v, e, b9⟩ := f2 16 (by decide)
    cases e
    obtain ⟨z9, e, hz16⟩ := q_sg2 mDok (g := 8) (by decide) b9
    cases e
    obtain ⟨c_kind, w16, -⟩ := q_arrAt p1 (q := 8) (g := 8) (tp := 0) rfl rfl (.inl rfl) hz16
    obtain ⟨v, e, b9⟩ := f2 17 (by decide)
    cases e
    obtain ⟨z9, e, hz17⟩ := q_sg2 mDok (g := 9) (by decide) b9
    cases e
    obtain ⟨c_lineFrom, w17, -⟩ := q_arrAt p1 (q := 9) (g := 9) (tp := 0) rfl rfl (.inl rfl) hz17
    obtain ⟨v, e, b9⟩ := f2 18 (by decide)
    cases e
    obtain ⟨z9, e, hz18⟩ := q_sg2 mDok (g := 10) (by decide) b9
    cases e
    obtain ⟨c_lineTo, w18, -⟩ := q_arrAt p1 (q := 10) (g := 10) (tp := 0) rfl rfl (.inl rfl) hz18
    obtain ⟨v, e, b9⟩ := f2 19 (by decide)
    cases e
    obtain ⟨z9, e, hz19⟩ := q_sg2 mDok (g := 11) (by decide) b9
    cases e
    obtain ⟨c_codes, w19, -⟩ := q_arrAt p1 (q := 11) (g := 11) (tp := 0) rfl rfl (.inl rfl) hz19
    obtain ⟨v, e, b9⟩ := f2 22 (by decide)
    cases e
    obtain ⟨z9, e, hz22⟩ := q_sg2 mDok (g := 12) (by decide) b9
    cases e
    obtain ⟨c_opened, w22, -⟩ := q_arrAt p1 (q := 12) (g := 12) (tp := 0) rfl rfl (.inl rfl) hz22
    obtain ⟨v, e, b9⟩ := f2 23 (by decide)
    cases e
    obtain ⟨z9, e, hz23⟩ := q_sg2 mDok (g := 13) (by decide) b9
    cases e
    obtain ⟨c_compared, w23, -⟩ := q_arrAt p1 (q := 13) (g := 13) (tp := 3) rfl rfl (.inr (.inr rfl)) hz23
    have e1 : n1 = nI n := by
      have h9 := px.1
      unfold qsl2 at h9
      rw [h0] at h9
      exact Value.int.inj (Option.some.inj h9)
    subst e1
    have hfg : ∀ k, k < n → f k = g0 k := fun k hk => by
      have h9 := px.2 k hk
      unfold qsl2 at h9
      rw [w2] at h9
      have h9 : (if k < 1000 then some (Value.int (g0 k)) else none) = some (Value.int (f k)) := h9
      rw [if_pos (by omega)] at h9
      exact (Value.int.inj (Option.some.inj h9)).symm
    obtain ⟨res, hres, hA0, hA1⟩ := fvA_m (f := f) (g := g0) hfg hn (w0 := n9) (w1 := n34) (w2 := n35) (b := (F_m_usual1 c_abbey, c_thoughtName, c_tenantName, c_worthOf, c_part, c_behind, c_kind, upd (upd c_lineFrom 2 1000) 3 1000, upd (upd c_lineTo 2 1000) 3 1000, c_codes, c_opened, c_compared)) (b0x := c_abbey) rfl ⟨Int32.le_refl (1000 : Int32), Int32.le_refl (1000 : Int32)⟩
    have hC9 := c_m_readsAll γ l z z2 z10 z11 z12 z13 z14 z15 z16 z17 z18 z19 z22 z23 z24 z25 z26 z27 z28 z29 z30 z31 z32 z33 z36 z37 z38 z39 z40 z41 z42 z43 z44 z45 z46 z47 z48 z55 z56 z59 z60 z61 n0 n3 n4 n5 n6 n7 n8 n9 n20 n21 n34 n35 n49 n50 n51 n52 n53 n54 n57 n58 n62 n63 n g0 ((c_abbey, c_thoughtName, c_tenantName, c_worthOf, c_part, c_behind, c_kind, c_lineFrom, c_lineTo, c_codes, c_opened, c_compared) : mAS) res hn hres
    have hce : [ws[0]?, ws[1]?, ws[2]?, ws[3]?, ws[4]?, ws[5]?, ws[6]?, ws[7]?, ws[8]?, ws[9]?, ws[10]?, ws[11]?, ws[12]?, ws[13]?] = ([(z, .inr (11, [.int n0, .int (nI n), .ref z2, .int n3, .int n4, .int n5, .int n6, .long n7, .int n8, .int n9, .ref z10, .ref z11, .ref z12, .ref z13, .ref z14, .ref z15, .ref z16, .ref z17, .ref z18, .ref z19, .int n20, .int n21, .ref z22, .ref z23, .ref z24, .ref z25, .ref z26, .ref z27, .ref z28, .ref z29, .ref z30, .ref z31, .ref z32, .ref z33, .int n34, .long n35, .ref z36, .ref z37, .ref z38, .ref z39, .ref z40, .ref z41, .ref z42, .ref z43, .ref z44, .ref z45, .ref z46, .ref z47, .ref z48, .int n49, .int n50, .int n51, .int n52, .int n53, .int n54, .ref z55, .ref z56, .int n57, .int n58, .ref z59, .ref z60, .ref z61, .int n62, .long n63])), (z2, .inl (γ.2.1 0, 1000, .inl g0)), (z10, .inl (γ.2.1 0, 10, .inl c_abbey)), (z11, .inl (γ.2.1 1, 16, .inr (.inl c_thoughtName))), (z12, .inl (γ.2.1 1, 10, .inr (.inl c_tenantName))), (z13, .inl (γ.2.1 0, 16, .inl c_worthOf)), (z14, .inl (γ.2.1 0, 16, .inl c_part)), (z15, .inl (γ.2.1 0, 16, .inl c_behind)), (z16, .inl (γ.2.1 0, 10, .inl c_kind)), (z17, .inl (γ.2.1 0, 4, .inl c_lineFrom)), (z18, .inl (γ.2.1 0, 4, .inl c_lineTo)), (z19, .inl (γ.2.1 0, 2000, .inl c_codes)), (z22, .inl (γ.2.1 0, 7, .inl c_opened)), (z23, .inl (γ.2.1 3, 7, .inl c_compared))] : va_W).map some := by
      rw [h0, w2, w10, w11, w12, w13, w14, w15, w16, w17, w18, w19, w22, w23]
      rfl
    refine k_imp (k_and (k_wide (f2 := 6) (l2 := 200) (hs9 adr ws [.ref z] ⟨p1, p2, ⟨hv0, hv1⟩, p4, p5⟩) (by decide) (by decide)) hC9 ⟨by decide, by decide, by decide, by decide⟩ [0, 1, 2, 3, 4, 5, 6, 7, 8, 9, 10, 11, 12, 13] rfl hce) (fun r w1 hq => ?_)
    obtain ⟨⟨q1, q2, q3, q4⟩, H, w2, ⟨e5, rfl⟩, k1, k2⟩ := hq
    refine ⟨q1, ⟨q2, fun h => ?_, fun h => ⟨?_, ?_⟩⟩, q3, q4⟩
    · obtain ⟨t, t1, t2⟩ := q4
      have hne := hA0 h
      rw [e5]
      have key : ∀ a b : Int, (t.1 = none ∧ r = none ∨ ∃ ty v, t.1 = some ty ∧ r = some v ∧ qvT mD γ adr ty v) → t.1 = some (0, a, b) → a ≤ res.1.toInt ∧ res.1.toInt ≤ b := fun a b h1 h2 => by
        rcases h1 with ⟨h3, _⟩ | ⟨ty, v, h3, h4, h5⟩
        · rw [h3] at h2; cases h2
        · rw [h3] at h2
          cases h2
          obtain ⟨x9, e9, c9⟩ := h5.1 rfl
          rw [e5] at h4
          have h4 := Option.some.inj h4
          rw [e9] at h4
          have h4 := Value.int.inj h4
          rw [h4]
          exact c9
      have t1 : t ∈ [_, _] := t1
      simp only [List.mem_cons, List.mem_nil_iff, or_false] at t1
      rcases t1 with t1 | t1
      · have h9 := key 0 0 t2.1 (by rw [t1])
        exact absurd (Int32.toInt_inj.mp (show res.1.toInt = (0 : Int32).toInt by rw [show (0 : Int32).toInt = 0 from by decide]; omega)) hne
      · have h9 := key 1 1 t2.1 (by rw [t1])
        have e : res.1 = 1 := Int32.toInt_inj.mp (show res.1.toInt = (1 : Int32).toInt by rw [show (1 : Int32).toInt = 1 from by decide]; omega)
        rw [e]
    · rw [e5, (hA1 h).1]
    · obtain ⟨fs1, j1, j2, j3⟩ := q_objAt q1 (q := 0) (g := 0) (ci := 11) rfl rfl hz
      have hv := b_atO (r := (RX12, TX12, 64)) rfl (k1 0 _ j1) (k2 0 _ rfl) 9 (by decide)
      rw [← (hA1 h).2]
      unfold qsl2
      rw [j1]
      exact l_vs (by rw [j2]; decide) hv rfl
theorem dX12_abbey_0 : decode cX12_abbey 0 = .ok (.aload_n 0, 1) := by decide +kernel
theorem dX12_abbey_1 : decode cX12_abbey 1 = .ok (.iconst 0, 1) := by decide +kernel
theorem dX12_abbey_2 : decode cX12_abbey 2 = .ok (.putfield 143, 3) := by decide +kernel
theorem dX12_abbey_5 : decode cX12_abbey 5 = .ok (.aload_n 0, 1) := by decide +kernel
theorem dX12_abbey_6 : decode cX12_abbey 6 = .ok (.invokevirtual 331, 3) := by decide +kernel
theorem dX12_abbey_9 : decode cX12_abbey 9 = .ok (.ifCond .ne 8, 3) := by decide +kernel
theorem dX12_abbey_12 : decode cX12_abbey 12 = .ok (.aload_n 0, 1) := by decide +kernel
theorem dX12_abbey_13 : decode cX12_abbey 13 = .ok (.getfield 178, 3) := by decide +kernel
theorem dX12_abbey_16 : decode cX12_abbey 16 = .ok (.ireturn, 1) := by decide +kernel
theorem dX12_abbey_17 : decode cX12_abbey 17 = .ok (.aload_n 0, 1) := by decide +kernel
theorem dX12_abbey_18 : decode cX12_abbey 18 = .ok (.invokevirtual 334, 3) := by decide +kernel
theorem dX12_abbey_21 : decode cX12_abbey 21 = .ok (.aload_n 0, 1) := by decide +kernel
theorem dX12_abbey_22 : decode cX12_abbey 22 = .ok (.invokevirtual 337, 3) := by decide +kernel
theorem dX12_abbey_25 : decode cX12_abbey 25 = .ok (.aload_n 0, 1) := by decide +kernel
theorem dX12_abbey_26 : decode cX12_abbey 26 = .ok (.getfield 81, 3) := by decide +kernel
theorem dX12_abbey_29 : decode cX12_abbey 29 = .ok (.iconst 0, 1) := by decide +kernel
theorem dX12_abbey_30 : decode cX12_abbey 30 = .ok (.iconst 0, 1) := by decide +kernel
theorem dX12_abbey_31 : decode cX12_abbey 31 = .ok (.iastore, 1) := by decide +kernel
theorem dX12_abbey_32 : decode cX12_abbey 32 = .ok (.aload_n 0, 1) := by decide +kernel
theorem dX12_abbey_33 : decode cX12_abbey 33 = .ok (.getfield 93, 3) := by decide +kernel
theorem dX12_abbey_36 : decode cX12_abbey 36 = .ok (.iconst 0, 1) := by decide +kernel
theorem dX12_abbey_37 : decode cX12_abbey 37 = .ok (.iconst 0, 1) := by decide +kernel
theorem dX12_abbey_38 : decode cX12_abbey 38 = .ok (.iastore, 1) := by decide +kernel
theorem dX12_abbey_39 : decode cX12_abbey 39 = .ok (.aload_n 0, 1) := by decide +kernel
theorem dX12_abbey_40 : decode cX12_abbey 40 = .ok (.iconst 0, 1) := by decide +kernel
theorem dX12_abbey_41 : decode cX12_abbey 41 = .ok (.putfield 339, 3) := by decide +kernel
theorem dX12_abbey_44 : decode cX12_abbey 44 = .ok (.iconst 0, 1) := by decide +kernel
theorem dX12_abbey_45 : decode cX12_abbey 45 = .ok (.istore_n 1, 1) := by decide +kernel
theorem dX12_abbey_46 : decode cX12_abbey 46 = .ok (.iload_n 1, 1) := by decide +kernel
theorem dX12_abbey_47 : decode cX12_abbey 47 = .ok (.iconst 4, 1) := by decide +kernel
theorem dX12_abbey_48 : decode cX12_abbey 48 = .ok (.if_icmp .ge 16, 3) := by decide +kernel
theorem dX12_abbey_51 : decode cX12_abbey 51 = .ok (.aload_n 0, 1) := by decide +kernel
theorem dX12_abbey_52 : decode cX12_abbey 52 = .ok (.getfield 117, 3) := by decide +kernel
theorem dX12_abbey_55 : decode cX12_abbey 55 = .ok (.iload_n 1, 1) := by decide +kernel
theorem dX12_abbey_56 : decode cX12_abbey 56 = .ok (.iconst 0, 1) := by decide +kernel
theorem dX12_abbey_57 : decode cX12_abbey 57 = .ok (.bastore, 1) := by decide +kernel
theorem dX12_abbey_58 : decode cX12_abbey 58 = .ok (.iinc 1 1, 3) := by decide +kernel
theorem dX12_abbey_61 : decode cX12_abbey 61 = .ok (.goto (-15), 3) := by decide +kernel
theorem dX12_abbey_64 : decode cX12_abbey 64 = .ok (.iconst 0, 1) := by decide +kernel
theorem dX12_abbey_65 : decode cX12_abbey 65 = .ok (.ireturn, 1) := by decide +kernel
/-! the model: abbey -/
def mnZ : qCon := (mn_59.1, [(2, 0, 0)], [], [], [(some (0, 0, 0), [], [], [], none)], mn_59.2.2.2.2.2)
theorem yb_c1 : qrun mD [(0, 0, 0)] mXr mtb_RX12 mMT [] 20 500 2 1 (qNo [(0, 0, 0)]) [] [] pg_X12_abbey [] [] (qgo mD [(0, 0, 0)] mXr mtb_RX12 mMT [] 20 500 2 1 (qNo [(0, 0, 0)]) [] [] pg_X12_abbey [] [] 0 [] [(6, bS6, (0, []))] 0 none 50) yE 0 = true := by decide +kernel
theorem yb_c2 : (match qs_call mD mn_59.2.2.2.2.2 [mnW] mtb_RX12.2.1 mMT 20 500 true bS6 331 6 with
      | some L => 3 == 3 && L.all (fun y => [((9, bS9a, (0, [])) : qCut), (9, bS9b, (0, []))].any (fun k => k.1 == y.2 && qcchk mD 0 [] 0 none y.1 k))
      | none => false) = true := by decide +kernel
theorem yb_c4 : qrun mD mn_59.2.2.2.2.2 (0 :: mXr) mtb_RX12 mMT [] 20 500 2 1 (qNo mn_59.2.2.2.2.2) [] [] pg_X12_abbey [] [] (qgo mD mn_59.2.2.2.2.2 (0 :: mXr) mtb_RX12 mMT [] 20 500 2 1 (qNo mn_59.2.2.2.2.2) [] [] pg_X12_abbey [] [] 0 [] [(18, bS18, (0, []))] 0 none 50) bS9b 9 = true := by decide +kernel
theorem yb_go : qgo mD mn_59.2.2.2.2.2 mXr mtb_RX12 mMT [] 20 500 2 1 mnZ [(3, 0, 0)] [] pg_X12_abbey [] [] 0 [] bCu 0 none 900 bS32 32 = true := by decide +kernel
theorem yb_sg : qsegs mD mn_59.2.2.2.2.2 mXr mtb_RX12 mMT [] 20 500 2 1 mnZ [(3, 0, 0)] [] pg_X12_abbey [] [] 0 [] bCu 900 = true := by decide +kernel
set_option maxHeartbeats 4000000 in
set_option maxRecDepth 100000 in
theorem ab_model (γ : kΓ) (l : Launch) {f : Nat → Int32} {n : Nat} (hn : n ≤ 1000) {adr : List Nat} {wm : va_W} {z : Nat} (hH : qH mD γ adr (fun _ _ => False) wm) (hMx : mX wm) (ham : adr[0]? = some z) (hXM : XM f n wm) : kM γ l yX12_abbey cX12_abbey 2 (some .int) ({ frames := 20, cells := 0, slots := 0, locals := 500 } : Room) [.ref z] wm (fun r _ => r = some (.int (fvA f n))) := by
  refine k_ofW (by decide) (by show 1 ≤ 2; decide) ?_
  intro p e s m below meth cd A ls hC hr hlocks hname hw hl
  have hx := hC.1
  have hb := hC.2.1
  have hρ0 : qr0 mD adr 0 = some z := by
    unfold qr0
    rw [if_pos (by decide)]
    exact ham
  refine q_seg (c := qNo [(0, 0, 0)]) (B := []) (fr := 20) (lc := 500) (w0 := wm) (av := []) (ea := []) (pa := []) (X := mX) (σ := qsl []) (ρ := qr0 mD adr) (lv := lv_args 0 [Value.ref z]) hC (q_Dok mDok) rfl (m_xok adr) mtk_RX12 q_f0 ⟨Nat.le_refl _, Nat.le_refl _⟩ pk_X12_abbey q_noE q_noR yb_c1 ?_ hw hl (q_Nof trivial (fun a b d h => by cases h)) ⟨⟨⟨rfl, .inr (.inr (.inr ⟨rfl, z, rfl, hρ0⟩))⟩, trivial⟩, trivial⟩ (q_Mof hH (fun n k av h => by cases h)) hMx q_K0
  intro k hk
  rw [List.mem_singleton] at hk
  subst hk
  intro σ2 ρ2 lv2 st2 ls2 ws2 H2 locs2 hw2 hl2 hN2 hF2 hM2 hx2 hK2 hσ2
  have hH2 := q_H00 hM2 (r := [])
  have hXM2 : XM f n ws2 := ⟨(q_kp2 hH hH2 hK2 (q := 0) (g := 0) (k := 1) rfl (by decide)).trans hXM.1, fun k hk => (q_kp2 hH hH2 hK2 (q := 1) (g := 1) (k := k) rfl (by simp [qmod, qNo])).trans (hXM.2 k hk)⟩
  refine q_segC (ms := mn_59.2.2.2.2.2) (fr := 20) (lc := 500) (n0 := 0) (n1 := 0) (lk := []) (σ := σ2) (ρ := ρ2) (w0 := ws2) (X := fun w => mX w ∧ XM f n w) (X' := fun r w => mY w ∧ (fvA f n = 0 → r = some (.int 1)) ∧ (¬ fvA f n = 0 → r = some (.int 0) ∧ qsl2 w 0 9 = some (.int (fvA f n)))) (B := [mnW]) (S := bS6) (pc := 6) (cuts := [((9, bS9a, (0, [])) : qCut), (9, bS9b, (0, []))]) hC (q_Dok mDok) mtk_RX12 (q_f1 (ra_model γ l hn) q_f0) ⟨Nat.le_refl _, Nat.le_refl _⟩ pk_X12_abbey (show qat pg_X12_abbey 6 = some (.invokevirtual 331, 3) from rfl) yb_c2 ?_ hw2 hl2 hN2 hF2 hM2 ⟨hx2, hXM2⟩ q_K0
  intro k hk σ3 ρ3 lv3 r3 st3 ls3 ws3 H3 locs3 hw3 hl3 hN3 hF3 hM3 hx3 hK3 hσ3
  have hH3 : qH mD γ adr (fun _ _ => False) ws3 := by
    rcases List.mem_cons.mp hk with h | hk
    · subst h; exact q_H00 hM3 (r := [])
    · have h := List.mem_singleton.mp hk
      subst h; exact q_H00 hM3 (r := [])
  obtain ⟨hx3, hx4, hx5⟩ := hx3
  rcases List.mem_cons.mp hk with h | hk
  · subst h
    have hne : ¬ fvA f n = 0 := fun h => by
      have e9 := hx4 h
      subst e9
      have h9 := hF3.2.1
      rcases h9 with ⟨t, _⟩ | ⟨_, xx, e1, e2⟩ | ⟨t, _⟩ | ⟨t, _⟩
      · exact absurd t (by decide)
      · cases e1
        exact absurd e2 (by decide)
      · exact absurd t (by decide)
      · exact absurd t (by decide)
    obtain ⟨e9, hsl⟩ := hx5 hne
    subst e9
    have hst : st3 = [] := by
      have h9 := F2.len hF3.2
      cases st3 with
      | nil => rfl
      | cons a b =>
        have h9 : 1 = (Value.int 0 :: a :: b).length := h9
        simp only [List.length_cons] at h9
        omega
    subst hst
    have hl0 : lv_has ls3 2 [(0, .ref z)] := by
      match lv3, hF3.1, hl3 with
      | [(j, v)], ⟨⟨e1, e2⟩, _⟩, hl3 =>
        have e1 : 0 = j := e1
        subst e1
        rcases e2 with ⟨t, _⟩ | ⟨t, _⟩ | ⟨t, _⟩ | ⟨_, nn, rfl, hρ⟩
        · exact absurd t (by decide)
        · exact absurd t (by decide)
        · exact absurd t (by decide)
        · have h9 := hM3.1 0 (by decide)
          have hρ : ρ3 0 = some nn := hρ
          rw [h9, ham] at hρ
          cases hρ
          exact hl3
    obtain ⟨n0, n1, z2, n3, n4, n5, n6, n7, n8, n9, z10, z11, z12, z13, z14, z15, z16, z17, z18, z19, n20, n21, z22, z23, z24, z25, z26, z27, z28, z29, z30, z31, z32, z33, n34, n35, z36, z37, z38, z39, z40, z41, z42, z43, z44, z45, z46, z47, z48, n49, n50, n51, n52, n53, n54, z55, z56, n57, n58, z59, z60, z61, n62, n63, wr9, rfl⟩ := m_z64 hH3 ham
    have e9 : n9 = fvA f n := Value.int.inj (Option.some.inj hsl)
    refine W.eq (g2 := F0 m 9 ls3 [.int 0]) rfl ?_
    refine lv_if_ne (tgt := 17) hx hb dX12_abbey_9 (by decide) (fun h => absurd rfl h) (fun _ => ?_)
    refine lv_aload_n hx hb dX12_abbey_12 rfl (lv_at hl0 0 rfl) ?_
    refine fg_RX12_178 hC hw3 0 rfl rfl dX12_abbey_13 ?_
    exact k_iret hC hr hlocks hw3 (List.range _) (q_nd _) (q_all _) (show some (Value.int n9) = some (.int (fvA f n)) by rw [e9]) (Nat.le_refl _) (Nat.le_refl _) dX12_abbey_16
  · have h := List.mem_singleton.mp hk
    subst h
    have h0 : fvA f n = 0 := by
      by_cases h : fvA f n = 0
      · exact h
      · exfalso
        have e9 := (hx5 h).1
        subst e9
        have h9 := hF3.2.1
        rcases h9 with ⟨t, _⟩ | ⟨_, xx, e1, e2⟩ | ⟨t, _⟩ | ⟨t, _⟩
        · exact absurd t (by decide)
        · cases e1
          exact absurd e2 (by decide)
        · exact absurd t (by decide)
        · exact absurd t (by decide)
    refine q_seg (c := qNo mn_59.2.2.2.2.2) (B := []) (fr := 20) (lc := 500) (w0 := ws2) (av := []) (ea := []) (pa := []) (n0 := 0) (X := mY) (σ := σ3) (ρ := ρ3) hC (q_Dok mDok) rfl (m_yok adr) mtk_RX12 q_f0 ⟨Nat.le_refl _, Nat.le_refl _⟩ pk_X12_abbey q_noE q_noR yb_c4 ?_ hw3 hl3 hN3 hF3 hM3 hx3 hK3
    intro k hk
    rw [List.mem_singleton] at hk
    subst hk
    intro σ4 ρ4 lv4 st4 ls4 ws4 H4 locs4 hw4 hl4 hN4 hF4 hM4 hx4 hK4 hσ4
    refine q_segC (ms := mn_59.2.2.2.2.2) (fr := 6) (lc := 130) (n0 := 0) (n1 := 0) (lk := []) (σ := σ4) (ρ := ρ4) (w0 := ws2) (X := mY) (X' := fun _ => mX) (B := [mn_9]) (S := bS18) (pc := 18) (cuts := [((21, bS21, (0, [])) : qCut)]) hC (q_Dok mDok) mtk_RX12 (q_f1 (my_9 γ l) q_f0) ⟨by decide, by decide⟩ pk_X12_abbey (show qat pg_X12_abbey 18 = some (.invokevirtual 334, 3) from rfl) b_c5 ?_ hw4 hl4 hN4 hF4 hM4 hx4 hK4
    intro k hk
    rw [List.mem_singleton] at hk
    subst hk
    intro σ5 ρ5 lv5 r5 st5 ls5 ws5 H5 locs5 hw5 hl5 hN5 hF5 hM5 hx5 hK5 hσ5
    have hH5 := q_H00 hM5 (r := [])
    refine q_seg (c := qNo bM) (B := [mn_0]) (fr := 6) (lc := 130) (ea := []) (pa := []) (n0 := 0) (w0 := ws5) (av := []) (X := fun _ => True) (σ := σ5) (ρ := ρ5) hC (q_Dok mDok) rfl (fun _ _ _ _ _ _ _ _ _ _ => trivial) mtk_RX12 (q_f1 (ms_0 γ l) q_f0) ⟨by decide, by decide⟩ pk_X12_abbey q_noE q_noR b_c6 ?_ hw5 hl5 hN5 hF5 hM5 trivial q_K0
    intro k hk
    rw [List.mem_singleton] at hk
    subst hk
    intro σ6 ρ6 lv6 st6 ls6 ws6 H6 locs6 hw6 hl6 hN6 hF6 hM6 hx6 hK6 hσ6
    have hH6 := q_H00 hM6 (r := [])
    obtain ⟨z8, z1, z2⟩ := q_gvM hM6 hw6.2.1.1 (n := 24) (k := 0) (av := (1, 0, 0)) (by decide) (by decide) rfl (.head _)
    have z2 : (0 : Int) = z8 := Option.some.inj z2
    subst z2
    have hX : mX ws6 := m_ln0 0 hH5 hH6 hK6 (fun j _ => by simp [qmod, bM, qNo]) (fun j _ => by simp [qmod, bM, qNo]) (fun j _ => by simp [qmod, bM, qNo]) (fun r _ h => by
      show qmod [(24, 0, 0), (31, 0, 132)] 24 r = false
      unfold qmod
      rw [List.any_eq_false]
      intro m hm hc
      simp only [List.mem_cons, List.mem_nil_iff, or_false] at hm
      simp only [Bool.and_eq_true, beq_iff_eq, Nat.ble_eq] at hc
      rcases hm with rfl | rfl <;> simp only at hc <;> omega) (fun j _ => by simp [qmod, bM, qNo]) (m_gv z1) hx5
    have hE : ∀ σ : qσ, qEn σ ws2 [Value.ref z] [(3, 0, 0)] [] mnZ := fun σ => ⟨fun i a h1 h2 => by
        match i, h1 with
        | 0, h1 => cases h1; omega, trivial⟩
    exact q_mid (B := []) (fr := 20) (lc := 500) (c := mnZ) (ea := [(3, 0, 0)]) (pa := []) (n0 := 0) (X := mX) (σ := σ6) (ρ := ρ6) (av := [.ref z]) (w0 := ws2) hC (q_Dok mDok) rfl (m_xok adr) mtk_RX12 q_f0 ⟨Nat.le_refl _, Nat.le_refl _⟩ pk_X12_abbey (hE _) (fun σ => q_rtX (q_rt (X := mX) hC hlocks hr (.inr (.inl ⟨rfl, rfl⟩)) σ) (fun r w c => by
      obtain ⟨-, -, -, t, t1, t2⟩ := c
      have t1 : t ∈ [((some (0, 0, 0), [], [], [], none) : qAlt)] := t1
      rw [List.mem_singleton] at t1
      subst t1
      rcases t2.1 with ⟨h3, _⟩ | ⟨ty, v, h3, h4, h5⟩
      · cases h3
      · cases h3
        obtain ⟨x9, e9, c9⟩ := h5.1 rfl
        rw [h4, e9, h0]
        have e : x9 = 0 := Int32.toInt_inj.mp (show x9.toInt = (0 : Int32).toInt by
          have h1 : (0 : Int) ≤ x9.toInt := c9.1
          have h2 : x9.toInt ≤ (0 : Int) := c9.2
          rw [show (0 : Int32).toInt = 0 from by decide]; omega)
        rw [e])) rfl yb_go yb_sg hw6 hl6 hN6 hF6 hM6 hX (q_Kt hH5 (by decide) hK5 hK6)

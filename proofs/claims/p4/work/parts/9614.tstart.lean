/-! what is told at the start -/
theorem t_ref {D : qWd} {γ : kΓ} {adr : List Nat} {w1 : va_W} {q g a ci N k g' x : Nat} {sg : List (Nat × qTy)} (hH : qH D γ adr (fun _ _ => False) w1) (hg : D.1[q]? = some g) (hr : D.2.1[g]? = some (10 + ci, N, sg)) (ha : adr[q]? = some a) (hk : k < N) (hs : qsg sg k = (2, (g' : Int), 0)) (h77 : ¬ g' = 77) (hv : qsl2 w1 q k = some (.ref x)) : ∃ p, D.1[p]? = some g' ∧ adr[p]? = some x ∧ rT w1 q k p := by
  obtain ⟨fs, e1, e2, e3⟩ := q_objAt hH hg hr ha
  obtain ⟨v, v1, v2⟩ := e3 k hk
  rw [hs] at v2
  obtain ⟨p, b, e, h1, h2⟩ := q_refp h77 v2
  subst e
  have h3 : qsl2 w1 q k = some (.ref b) := by
    unfold qsl2
    rw [e1]
    exact v1
  rw [hv] at h3
  have h3 := Value.ref.inj (Option.some.inj h3)
  subst h3
  exact ⟨p, h1, h2, x, by rw [hH.1]; exact h2, hv⟩
theorem adr_ne {adr : List Nat} {p q x y : Nat} (h1 : adr[p]? = some x) (h2 : adr[q]? = some y) (hn : x ≠ y) : p ≠ q := fun e => by
  subst e
  rw [h1] at h2
  exact hn (Option.some.inj h2)
set_option maxHeartbeats 4000000 in
set_option maxRecDepth 100000 in
theorem x11_told (γ : kΓ) (l : Launch) (hγ : γ.2.2.2.1 = γ.2.2.2.2 0) (x : Nat) : kM γ l yX11_init cX11_init 2 none ({ frames := 4, cells := 207, slots := 6205, locals := 85 } : Room) [.ref x] [(x, .inr (10, [.null, .null, .null, .null, .null, .null, .null, .null, .null, .null, .null]))] (fun r w1 => (bX γ cD x r w1 ∧ qsl2 w1 1 1 = some (.int 0)) ∧ cTo w1 ((0, 0, fun _ => 0, fun _ => 0, fun _ => 0) : tS)) := by
  refine k_imp (x11_start γ l hγ x) (fun r w1 hq => ?_)
  obtain ⟨⟨⟨hr0, hH, hax⟩, hz⟩, H, w2, hP, k1, k2, d1, d2⟩ := hq
  refine ⟨⟨⟨hr0, hH, hax⟩, hz⟩, ?_⟩
  clear d1 hz hr0
  unfold x11Post at hP
  refine hP.elim (fun x0 hP => ?_)
  refine hP.elim (fun x1 hP => ?_)
  refine hP.elim (fun x2 hP => ?_)
  refine hP.elim (fun x3 hP => ?_)
  refine hP.elim (fun x4 hP => ?_)
  refine hP.elim (fun x5 hP => ?_)
  refine hP.elim (fun x6 hP => ?_)
  refine hP.elim (fun x7 hP => ?_)
  refine hP.elim (fun x8 hP => ?_)
  refine hP.elim (fun x9 hP => ?_)
  refine hP.elim (fun x10 hP => ?_)
  refine hP.elim (fun x0g hP => ?_)
  refine hP.elim (fun fx0g hP => ?_)
  refine hP.elim (fun ua hP => ?_)
  refine hP.elim (fun x2s hP => ?_)
  refine hP.elim (fun x2s_l hP => ?_)
  refine hP.elim (fun x2s_c hP => ?_)
  refine hP.elim (fun x2s_g hP => ?_)
  refine hP.elim (fun x2s_r hP => ?_)
  refine hP.elim (fun x2s_k hP => ?_)
  refine hP.elim (fun x2s_b hP => ?_)
  refine hP.elim (fun x2y hP => ?_)
  refine hP.elim (fun x2q hP => ?_)
  refine hP.elim (fun fx2s_l hP => ?_)
  refine hP.elim (fun fx2s_c hP => ?_)
  refine hP.elim (fun fx2s_g hP => ?_)
  refine hP.elim (fun fx2s_r hP => ?_)
  refine hP.elim (fun fx2s_k hP => ?_)
  refine hP.elim (fun fx2s_b hP => ?_)
  refine hP.elim (fun fx2y hP => ?_)
  refine hP.elim (fun fx2q hP => ?_)
  refine hP.elim (fun fm hP => ?_)
  refine hP.elim (fun ma hP => ?_)
  refine hP.elim (fun mas hP => ?_)
  refine hP.elim (fun mas_l hP => ?_)
  refine hP.elim (fun mas_c hP => ?_)
  refine hP.elim (fun mas_g hP => ?_)
  refine hP.elim (fun mas_r hP => ?_)
  refine hP.elim (fun mas_k hP => ?_)
  refine hP.elim (fun mas_b hP => ?_)
  refine hP.elim (fun may hP => ?_)
  refine hP.elim (fun maq hP => ?_)
  refine hP.elim (fun fmas_l hP => ?_)
  refine hP.elim (fun fmas_c hP => ?_)
  refine hP.elim (fun fmas_g hP => ?_)
  refine hP.elim (fun fmas_r hP => ?_)
  refine hP.elim (fun fmas_k hP => ?_)
  refine hP.elim (fun fmas_b hP => ?_)
  refine hP.elim (fun fmay hP => ?_)
  refine hP.elim (fun fmaq hP => ?_)
  refine hP.elim (fun mb hP => ?_)
  refine hP.elim (fun mbs hP => ?_)
  refine hP.elim (fun mbs_l hP => ?_)
  refine hP.elim (fun mbs_c hP => ?_)
  refine hP.elim (fun mbs_g hP => ?_)
  refine hP.elim (fun mbs_r hP => ?_)
  refine hP.elim (fun mbs_k hP => ?_)
  refine hP.elim (fun mbs_b hP => ?_)
  refine hP.elim (fun mby hP => ?_)
  refine hP.elim (fun mbq hP => ?_)
  refine hP.elim (fun fmbs_l hP => ?_)
  refine hP.elim (fun fmbs_c hP => ?_)
  refine hP.elim (fun fmbs_g hP => ?_)
  refine hP.elim (fun fmbs_r hP => ?_)
  refine hP.elim (fun fmbs_k hP => ?_)
  refine hP.elim (fun fmbs_b hP => ?_)
  refine hP.elim (fun fmby hP => ?_)
  refine hP.elim (fun fmbq hP => ?_)
  refine hP.elim (fun mc hP => ?_)
  refine hP.elim (fun mcs hP => ?_)
  refine hP.elim (fun mcs_l hP => ?_)
  refine hP.elim (fun mcs_c hP => ?_)
  refine hP.elim (fun mcs_g hP => ?_)
  refine hP.elim (fun mcs_r hP => ?_)
  refine hP.elim (fun mcs_k hP => ?_)
  refine hP.elim (fun mcs_b hP => ?_)
  refine hP.elim (fun mcy hP => ?_)
  refine hP.elim (fun mcq hP => ?_)
  refine hP.elim (fun fmcs_l hP => ?_)
  refine hP.elim (fun fmcs_c hP => ?_)
  refine hP.elim (fun fmcs_g hP => ?_)
  refine hP.elim (fun fmcs_r hP => ?_)
  refine hP.elim (fun fmcs_k hP => ?_)
  refine hP.elim (fun fmcs_b hP => ?_)
  refine hP.elim (fun fmcy hP => ?_)
  refine hP.elim (fun fmcq hP => ?_)
  refine hP.elim (fun md hP => ?_)
  refine hP.elim (fun mds hP => ?_)
  refine hP.elim (fun mds_l hP => ?_)
  refine hP.elim (fun mds_c hP => ?_)
  refine hP.elim (fun mds_g hP => ?_)
  refine hP.elim (fun mds_r hP => ?_)
  refine hP.elim (fun mds_k hP => ?_)
  refine hP.elim (fun mds_b hP => ?_)
  refine hP.elim (fun mdy hP => ?_)
  refine hP.elim (fun mdq hP => ?_)
  refine hP.elim (fun fmds_l hP => ?_)
  refine hP.elim (fun fmds_c hP => ?_)
  refine hP.elim (fun fmds_g hP => ?_)
  refine hP.elim (fun fmds_r hP => ?_)
  refine hP.elim (fun fmds_k hP => ?_)
  refine hP.elim (fun fmds_b hP => ?_)
  refine hP.elim (fun fmdy hP => ?_)
  refine hP.elim (fun fmdq hP => ?_)
  refine hP.elim (fun x4s hP => ?_)
  refine hP.elim (fun x4s_l hP => ?_)
  refine hP.elim (fun x4s_c hP => ?_)
  refine hP.elim (fun x4s_g hP => ?_)
  refine hP.elim (fun x4s_r hP => ?_)
  refine hP.elim (fun x4s_k hP => ?_)
  refine hP.elim (fun x4s_b hP => ?_)
  refine hP.elim (fun fx4s_l hP => ?_)
  refine hP.elim (fun fx4s_c hP => ?_)
  refine hP.elim (fun fx4s_g hP => ?_)
  refine hP.elim (fun fx4s_r hP => ?_)
  refine hP.elim (fun fx4s_k hP => ?_)
  refine hP.elim (fun fx4s_b hP => ?_)
  refine hP.elim (fun pc hP => ?_)
  refine hP.elim (fun pt hP => ?_)
  refine hP.elim (fun pd hP => ?_)
  refine hP.elim (fun fc hP => ?_)
  refine hP.elim (fun ft hP => ?_)
  refine hP.elim (fun x8n hP => ?_)
  refine hP.elim (fun fn hP => ?_)
  refine hP.elim (fun x90 hP => ?_)
  refine hP.elim (fun x91 hP => ?_)
  refine hP.elim (fun x92 hP => ?_)
  refine hP.elim (fun x93 hP => ?_)
  refine hP.elim (fun x94 hP => ?_)
  refine hP.elim (fun x95 hP => ?_)
  refine hP.elim (fun x96 hP => ?_)
  refine hP.elim (fun x97 hP => ?_)
  refine hP.elim (fun x100 hP => ?_)
  refine hP.elim (fun x101 hP => ?_)
  refine hP.elim (fun x102 hP => ?_)
  refine hP.elim (fun x103 hP => ?_)
  refine hP.elim (fun x104 hP => ?_)
  refine hP.elim (fun x105 hP => ?_)
  refine hP.elim (fun x106 hP => ?_)
  refine hP.elim (fun x107 hP => ?_)
  obtain ⟨-, hw2, -⟩ := hP
  subst hw2
  have hr9 : qsl2 w1 0 9 = some (.ref x9) := q_eO (ci := 10) hH (q := 0) (g := 0) rfl rfl rfl rfl hax k1 (k2 0 _ rfl) (by decide) rfl
  have hr10 : qsl2 w1 0 10 = some (.ref x10) := q_eO (ci := 10) hH (q := 0) (g := 0) rfl rfl rfl rfl hax k1 (k2 0 _ rfl) (by decide) rfl
  obtain ⟨pt, gt, at9, rt⟩ := t_ref (ci := 10) (k := 9) (g' := 21) hH (q := 0) (g := 0) rfl rfl hax (by decide) rfl (by decide) hr9
  obtain ⟨pd, gd, ad9, rd⟩ := t_ref (ci := 10) (k := 10) (g' := 21) hH (q := 0) (g := 0) rfl rfl hax (by decide) rfl (by decide) hr10
  have ht0 : qsl2 w1 pt 0 = some (.ref x90) := q_eO (ci := 0) hH gt rfl rfl rfl at9 k1 (k2 68 _ rfl) (by decide) rfl
  obtain ⟨t0, gt0, at0, rt0⟩ := t_ref (ci := 0) (k := 0) (g' := 22) hH gt rfl at9 (by decide) rfl (by decide) ht0
  have ht3 : qsl2 w1 pt 3 = some (.ref x93) := q_eO (ci := 0) hH gt rfl rfl rfl at9 k1 (k2 68 _ rfl) (by decide) rfl
  obtain ⟨t3, gt3, at3, rt3⟩ := t_ref (ci := 0) (k := 3) (g' := 25) hH gt rfl at9 (by decide) rfl (by decide) ht3
  have ht4 : qsl2 w1 pt 4 = some (.ref x94) := q_eO (ci := 0) hH gt rfl rfl rfl at9 k1 (k2 68 _ rfl) (by decide) rfl
  obtain ⟨t4, gt4, at4, rt4⟩ := t_ref (ci := 0) (k := 4) (g' := 26) hH gt rfl at9 (by decide) rfl (by decide) ht4
  have hd0 : qsl2 w1 pd 0 = some (.ref x100) := q_eO (ci := 0) hH gd rfl rfl rfl ad9 k1 (k2 69 _ rfl) (by decide) rfl
  obtain ⟨d0, gd0, ad0, rd0⟩ := t_ref (ci := 0) (k := 0) (g' := 22) hH gd rfl ad9 (by decide) rfl (by decide) hd0
  have hd3 : qsl2 w1 pd 3 = some (.ref x103) := q_eO (ci := 0) hH gd rfl rfl rfl ad9 k1 (k2 69 _ rfl) (by decide) rfl
  obtain ⟨d3, gd3, ad3, rd3⟩ := t_ref (ci := 0) (k := 3) (g' := 25) hH gd rfl ad9 (by decide) rfl (by decide) hd3
  have hd4 : qsl2 w1 pd 4 = some (.ref x104) := q_eO (ci := 0) hH gd rfl rfl rfl ad9 k1 (k2 69 _ rfl) (by decide) rfl
  obtain ⟨d4, gd4, ad4, rd4⟩ := t_ref (ci := 0) (k := 4) (g' := 26) hH gd rfl ad9 (by decide) rfl (by decide) hd4
  refine ⟨pt, t0, t3, t4, pd, d0, d3, d4, ⟨gt, gt0, gt3, gt4, rt0, rt3, rt4⟩, ⟨gd, gd0, gd3, gd4, rd0, rd3, rd4⟩, ⟨adr_ne at9 ad9 (fun h => absurd (d2 68 69 _ _ rfl rfl h) (by decide)), adr_ne at0 ad0 (fun h => absurd (d2 70 78 _ _ rfl rfl h) (by decide)), adr_ne at3 ad3 (fun h => absurd (d2 73 81 _ _ rfl rfl h) (by decide)), adr_ne at4 ad4 (fun h => absurd (d2 74 82 _ _ rfl rfl h) (by decide))⟩, rt, rd, Nat.zero_le _, Nat.zero_le _, ?_, ?_, fun i hi => absurd hi (Nat.not_lt_zero i), fun i hi => absurd hi (Nat.not_lt_zero i), fun i hi => absurd hi (Nat.not_lt_zero i)⟩
  · exact q_eO (ci := 0) hH gt rfl rfl rfl at9 k1 (k2 68 _ rfl) (by decide) rfl
  · exact q_eO (ci := 0) hH gt rfl rfl rfl at9 k1 (k2 68 _ rfl) (by decide) rfl
set_option maxHeartbeats 4000000 in
set_option maxRecDepth 100000 in
theorem x12_told (γ : kΓ) (l : Launch) (z : Nat) : kM γ l yX12_init cX12_init 1 none ({ frames := 1, cells := 41, slots := 7641, locals := 24 } : Room) [.ref z] [(z, .inr (11, [.int 0, .int 0, .null, .int 0, .int 0, .int 0, .int 0, .long 0, .int 0, .int 0, .null, .null, .null, .null, .null, .null, .null, .null, .null, .null, .int 0, .int 0, .null, .null, .null, .null, .null, .null, .null, .null, .null, .null, .null, .null, .int 0, .long 0, .null, .null, .null, .null, .null, .null, .null, .null, .null, .null, .null, .null, .null, .int 0, .int 0, .int 0, .int 0, .int 0, .int 0, .null, .null, .int 0, .int 0, .null, .null, .null, .int 0, .long 0]))] (fun r w1 => (bX γ mD z r w1 ∧ mX w1 ∧ qsl2 w1 0 1 = some (.int 0)) ∧ mTo w1 ((0, 0, fun _ => 0, fun _ => 0, fun _ => 0) : tS)) := by
  refine k_imp (k_and (b_X12 γ l z) (c_X12_init γ l z) ⟨Nat.le_refl _, Nat.le_refl _, Nat.le_refl _, Nat.le_refl _⟩ [0] rfl rfl) (fun r w1 hq => ?_)
  obtain ⟨hb, H, w2, hP, k1, k2⟩ := hq
  refine ⟨hb, ?_⟩
  obtain ⟨⟨hr0, hH, hax⟩, hX, hz⟩ := hb
  clear hX hz
  refine hP.elim (fun z2 hP => ?_)
  refine hP.elim (fun z10 hP => ?_)
  refine hP.elim (fun z11 hP => ?_)
  refine hP.elim (fun z12 hP => ?_)
  refine hP.elim (fun z13 hP => ?_)
  refine hP.elim (fun z14 hP => ?_)
  refine hP.elim (fun z15 hP => ?_)
  refine hP.elim (fun z16 hP => ?_)
  refine hP.elim (fun z17 hP => ?_)
  refine hP.elim (fun z18 hP => ?_)
  refine hP.elim (fun z19 hP => ?_)
  refine hP.elim (fun z22 hP => ?_)
  refine hP.elim (fun z23 hP => ?_)
  refine hP.elim (fun z24 hP => ?_)
  refine hP.elim (fun z25 hP => ?_)
  refine hP.elim (fun z26 hP => ?_)
  refine hP.elim (fun z27 hP => ?_)
  refine hP.elim (fun z28 hP => ?_)
  refine hP.elim (fun z29 hP => ?_)
  refine hP.elim (fun z30 hP => ?_)
  refine hP.elim (fun z31 hP => ?_)
  refine hP.elim (fun z32 hP => ?_)
  refine hP.elim (fun z33 hP => ?_)
  refine hP.elim (fun z36 hP => ?_)
  refine hP.elim (fun z37 hP => ?_)
  refine hP.elim (fun z38 hP => ?_)
  refine hP.elim (fun z39 hP => ?_)
  refine hP.elim (fun z40 hP => ?_)
  refine hP.elim (fun z41 hP => ?_)
  refine hP.elim (fun z42 hP => ?_)
  refine hP.elim (fun z43 hP => ?_)
  refine hP.elim (fun z44 hP => ?_)
  refine hP.elim (fun z45 hP => ?_)
  refine hP.elim (fun z46 hP => ?_)
  refine hP.elim (fun z47 hP => ?_)
  refine hP.elim (fun z48 hP => ?_)
  refine hP.elim (fun z55 hP => ?_)
  refine hP.elim (fun z56 hP => ?_)
  refine hP.elim (fun z59 hP => ?_)
  refine hP.elim (fun z60 hP => ?_)
  refine hP.elim (fun z61 hP => ?_)
  refine hP.elim (fun fa hP => ?_)
  obtain ⟨-, hw2, f0, f1, -, -, -, -, -, -, -, -⟩ := hP
  subst hw2
  have ha : ((w1.map Prod.fst)[2]?) = some z10 := by
    obtain ⟨fs, e1, e2, e3⟩ := q_objAt hH (q := 0) (g := 0) (ci := 11) rfl rfl hax
    obtain ⟨v, v1, v2⟩ := e3 10 (by decide)
    obtain ⟨a, e, h2⟩ := q_sg2 mDok (g := 2) (by decide) v2
    subst e
    have h3 : qsl2 w1 0 10 = some (.ref a) := by
      unfold qsl2
      rw [e1]
      exact v1
    rw [q_eO (ci := 11) hH (q := 0) (g := 0) rfl rfl rfl rfl hax k1 (k2 0 _ rfl) (k := 10) (v := .ref z10) (by decide) rfl] at h3
    have h3 := Value.ref.inj (Option.some.inj h3)
    rw [h3]
    exact h2
  refine ⟨Nat.zero_le _, Nat.zero_le _, ?_, ?_, fun i hi => absurd hi (Nat.not_lt_zero i), fun i hi => absurd hi (Nat.not_lt_zero i), fun i hi => absurd hi (Nat.not_lt_zero i)⟩
  · rw [q_eI hH (q := 2) (g := 2) rfl rfl (.inl rfl) ha k1 (k2 2 _ rfl) 0 (by decide), f0]
    rfl
  · rw [q_eI hH (q := 2) (g := 2) rfl rfl (.inl rfl) ha k1 (k2 2 _ rfl) 1 (by decide), f1]
    rfl

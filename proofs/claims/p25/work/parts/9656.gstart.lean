/-! what is told and what is laid at the start -/
theorem q_eR {D : qWd} {γ : kΓ} {adr : List Nat} {w1 : va_W} {H : Heap} {q g a t N m k x : Nat} {sg : List (Nat × qTy)} {cA : ClassId} {f2 : Nat → Option Nat} (h1 : qH D γ adr (fun _ _ => False) w1) (hg : D.1[q]? = some g) (hr : D.2.1[g]? = some (t, N, sg)) (ht : t = 4 ∨ t = 5) (ha : adr[q]? = some a) (hP : va_P γ.1 vwCl w1 H) (h2 : va_at γ.1 vwCl (a, .inl (cA, m, .inr (.inr (.inr (.inr f2))))) H) (hk : k < N) (hf : f2 k = some x) : qsl2 w1 q k = some (.ref x) := by
  obtain ⟨f1, j1⟩ := q_arrF h1 hg hr ht ha
  have h3 : H[a]? = some (arrV (γ.2.1 t) N (fun j => va_rf (f1 j))) := hP q _ j1
  have h2 : H[a]? = some (arrV cA m (fun j => va_rf (f2 j))) := h2
  rw [h3] at h2
  have e := Option.some.inj h2
  have e1 := congrArg (fun c : Cell => c.slots.size) e
  simp only [arrV_size] at e1
  subst e1
  have e2 := congrArg (fun c : Cell => c.slots[k]?) e
  simp only [arrV_read _ _ hk] at e2
  have e3 : va_rf (f1 k) = va_rf (f2 k) := Option.some.inj e2
  unfold qsl2
  rw [j1]
  show (if k < N then some (va_rf (f1 k)) else none) = _
  rw [if_pos hk, e3, hf]
  rfl
theorem t_refA {D : qWd} {γ : kΓ} {adr : List Nat} {w1 : va_W} {q g a t N k g' x : Nat} {sg : List (Nat × qTy)} (hH : qH D γ adr (fun _ _ => False) w1) (hg : D.1[q]? = some g) (hr : D.2.1[g]? = some (t, N, sg)) (ha : adr[q]? = some a) (hk : k < N) (hs : qsg sg k = (2, (g' : Int), 0)) (h77 : ¬ g' = 77) (hv : qsl2 w1 q k = some (.ref x)) : ∃ p, D.1[p]? = some g' ∧ adr[p]? = some x ∧ rT w1 q k p := by
  obtain ⟨c, hc⟩ : ∃ c, w1[q]? = some (a, c) := by
    rw [← hH.1, List.getElem?_map, Option.map_eq_some_iff] at ha
    obtain ⟨⟨b, c⟩, h1, h2⟩ := ha
    have h2 : b = a := h2
    subst h2
    exact ⟨c, h1⟩
  obtain ⟨r, r1, r2, r3⟩ := hH.2.2 q g a c hg hc
  rw [hr] at r1
  cases r1
  rcases r3 k hk with h9 | ⟨v, v1, v2⟩
  · exact h9.elim
  · rw [hs] at v2
    obtain ⟨p, b, e, h1, h2⟩ := q_refp h77 v2
    subst e
    have h3 : qsl2 w1 q k = some (.ref b) := by
      unfold qsl2
      rw [hc]
      exact v1
    rw [hv] at h3
    have h3 := Value.ref.inj (Option.some.inj h3)
    subst h3
    exact ⟨p, h1, h2, x, by rw [hH.1]; exact h2, hv⟩
set_option maxHeartbeats 4000000 in
set_option maxRecDepth 100000 in
theorem x11_told3 (γ : kΓ) (l : Launch) (hγ : γ.2.2.2.1 = γ.2.2.2.2 0) (x : Nat) : kM γ l yX11_init cX11_init 2 none ({ frames := 4, cells := 207, slots := 6205, locals := 85 } : Room) [.ref x] [(x, .inr (10, [.null, .null, .null, .null, .null, .null, .null, .null, .null, .null, .null]))] (fun r w1 => (bX γ cD x r w1 ∧ qsl2 w1 1 1 = some (.int 0)) ∧ cTo w1 ((0, 0, fun _ => 0, fun _ => 0, fun _ => 0) : tS) ∧ ∃ ge, cM w1 (fun _ => 0) (fun _ => 0) ge) := by
  refine k_imp (x11_start γ l hγ x) (fun r w1 hq => ?_)
  obtain ⟨⟨⟨hr0, hH, hax⟩, hz⟩, H, w2, hP, k1, k2, d1, d2⟩ := hq
  refine ⟨⟨⟨hr0, hH, hax⟩, hz⟩, ?_⟩
  clear d1 hz hr0
  unfold x11Post at hP
  refine hP.elim (fun x0 hP => ?_)
  refine hP.elim (fun x1 hP => ?_)
  refine hP.elim (fun x2 hP => ?_)
  refine hP.elim (fun x3 hP => ?_)
  refine hP.elim (fun x4 hP => ?_)
  refine hP.elim (fun x5 hP => ?_)
  refine hP.elim (fun x6 hP => ?_)
  refine hP.elim (fun x7 hP => ?_)
  refine hP.elim (fun x8 hP => ?_)
  refine hP.elim (fun x9 hP => ?_)
  refine hP.elim (fun x10 hP => ?_)
  refine hP.elim (fun x0g hP => ?_)
  refine hP.elim (fun fx0g hP => ?_)
  refine hP.elim (fun ua hP => ?_)
  refine hP.elim (fun x2s hP => ?_)
  refine hP.elim (fun x2s_l hP => ?_)
  refine hP.elim (fun x2s_c hP => ?_)
  refine hP.elim (fun x2s_g hP => ?_)
  refine hP.elim (fun x2s_r hP => ?_)
  refine hP.elim (fun x2s_k hP => ?_)
  refine hP.elim (fun x2s_b hP => ?_)
  refine hP.elim (fun x2y hP => ?_)
  refine hP.elim (fun x2q hP => ?_)
  refine hP.elim (fun fx2s_l hP => ?_)
  refine hP.elim (fun fx2s_c hP => ?_)
  refine hP.elim (fun fx2s_g hP => ?_)
  refine hP.elim (fun fx2s_r hP => ?_)
  refine hP.elim (fun fx2s_k hP => ?_)
  refine hP.elim (fun fx2s_b hP => ?_)
  refine hP.elim (fun fx2y hP => ?_)
  refine hP.elim (fun fx2q hP => ?_)
  refine hP.elim (fun fm hP => ?_)
  refine hP.elim (fun ma hP => ?_)
  refine hP.elim (fun mas hP => ?_)
  refine hP.elim (fun mas_l hP => ?_)
  refine hP.elim (fun mas_c hP => ?_)
  refine hP.elim (fun mas_g hP => ?_)
  refine hP.elim (fun mas_r hP => ?_)
  refine hP.elim (fun mas_k hP => ?_)
  refine hP.elim (fun mas_b hP => ?_)
  refine hP.elim (fun may hP => ?_)
  refine hP.elim (fun maq hP => ?_)
  refine hP.elim (fun fmas_l hP => ?_)
  refine hP.elim (fun fmas_c hP => ?_)
  refine hP.elim (fun fmas_g hP => ?_)
  refine hP.elim (fun fmas_r hP => ?_)
  refine hP.elim (fun fmas_k hP => ?_)
  refine hP.elim (fun fmas_b hP => ?_)
  refine hP.elim (fun fmay hP => ?_)
  refine hP.elim (fun fmaq hP => ?_)
  refine hP.elim (fun mb hP => ?_)
  refine hP.elim (fun mbs hP => ?_)
  refine hP.elim (fun mbs_l hP => ?_)
  refine hP.elim (fun mbs_c hP => ?_)
  refine hP.elim (fun mbs_g hP => ?_)
  refine hP.elim (fun mbs_r hP => ?_)
  refine hP.elim (fun mbs_k hP => ?_)
  refine hP.elim (fun mbs_b hP => ?_)
  refine hP.elim (fun mby hP => ?_)
  refine hP.elim (fun mbq hP => ?_)
  refine hP.elim (fun fmbs_l hP => ?_)
  refine hP.elim (fun fmbs_c hP => ?_)
  refine hP.elim (fun fmbs_g hP => ?_)
  refine hP.elim (fun fmbs_r hP => ?_)
  refine hP.elim (fun fmbs_k hP => ?_)
  refine hP.elim (fun fmbs_b hP => ?_)
  refine hP.elim (fun fmby hP => ?_)
  refine hP.elim (fun fmbq hP => ?_)
  refine hP.elim (fun mc hP => ?_)
  refine hP.elim (fun mcs hP => ?_)
  refine hP.elim (fun mcs_l hP => ?_)
  refine hP.elim (fun mcs_c hP => ?_)
  refine hP.elim (fun mcs_g hP => ?_)
  refine hP.elim (fun mcs_r hP => ?_)
  refine hP.elim (fun mcs_k hP => ?_)
  refine hP.elim (fun mcs_b hP => ?_)
  refine hP.elim (fun mcy hP => ?_)
  refine hP.elim (fun mcq hP => ?_)
  refine hP.elim (fun fmcs_l hP => ?_)
  refine hP.elim (fun fmcs_c hP => ?_)
  refine hP.elim (fun fmcs_g hP => ?_)
  refine hP.elim (fun fmcs_r hP => ?_)
  refine hP.elim (fun fmcs_k hP => ?_)
  refine hP.elim (fun fmcs_b hP => ?_)
  refine hP.elim (fun fmcy hP => ?_)
  refine hP.elim (fun fmcq hP => ?_)
  refine hP.elim (fun md hP => ?_)
  refine hP.elim (fun mds hP => ?_)
  refine hP.elim (fun mds_l hP => ?_)
  refine hP.elim (fun mds_c hP => ?_)
  refine hP.elim (fun mds_g hP => ?_)
  refine hP.elim (fun mds_r hP => ?_)
  refine hP.elim (fun mds_k hP => ?_)
  refine hP.elim (fun mds_b hP => ?_)
  refine hP.elim (fun mdy hP => ?_)
  refine hP.elim (fun mdq hP => ?_)
  refine hP.elim (fun fmds_l hP => ?_)
  refine hP.elim (fun fmds_c hP => ?_)
  refine hP.elim (fun fmds_g hP => ?_)
  refine hP.elim (fun fmds_r hP => ?_)
  refine hP.elim (fun fmds_k hP => ?_)
  refine hP.elim (fun fmds_b hP => ?_)
  refine hP.elim (fun fmdy hP => ?_)
  refine hP.elim (fun fmdq hP => ?_)
  refine hP.elim (fun x4s hP => ?_)
  refine hP.elim (fun x4s_l hP => ?_)
  refine hP.elim (fun x4s_c hP => ?_)
  refine hP.elim (fun x4s_g hP => ?_)
  refine hP.elim (fun x4s_r hP => ?_)
  refine hP.elim (fun x4s_k hP => ?_)
  refine hP.elim (fun x4s_b hP => ?_)
  refine hP.elim (fun fx4s_l hP => ?_)
  refine hP.elim (fun fx4s_c hP => ?_)
  refine hP.elim (fun fx4s_g hP => ?_)
  refine hP.elim (fun fx4s_r hP => ?_)
  refine hP.elim (fun fx4s_k hP => ?_)
  refine hP.elim (fun fx4s_b hP => ?_)
  refine hP.elim (fun pc hP => ?_)
  refine hP.elim (fun pt hP => ?_)
  refine hP.elim (fun pd hP => ?_)
  refine hP.elim (fun fc hP => ?_)
  refine hP.elim (fun ft hP => ?_)
  refine hP.elim (fun x8n hP => ?_)
  refine hP.elim (fun fn hP => ?_)
  refine hP.elim (fun x90 hP => ?_)
  refine hP.elim (fun x91 hP => ?_)
  refine hP.elim (fun x92 hP => ?_)
  refine hP.elim (fun x93 hP => ?_)
  refine hP.elim (fun x94 hP => ?_)
  refine hP.elim (fun x95 hP => ?_)
  refine hP.elim (fun x96 hP => ?_)
  refine hP.elim (fun x97 hP => ?_)
  refine hP.elim (fun x100 hP => ?_)
  refine hP.elim (fun x101 hP => ?_)
  refine hP.elim (fun x102 hP => ?_)
  refine hP.elim (fun x103 hP => ?_)
  refine hP.elim (fun x104 hP => ?_)
  refine hP.elim (fun x105 hP => ?_)
  refine hP.elim (fun x106 hP => ?_)
  refine hP.elim (fun x107 hP => ?_)
  obtain ⟨-, hw2, -, m0, m1, m2, m3⟩ := hP
  subst hw2
  have hr9 : qsl2 w1 0 9 = some (.ref x9) := q_eO (ci := 10) hH (q := 0) (g := 0) rfl rfl rfl rfl hax k1 (k2 0 _ rfl) (by decide) rfl
  have hr10 : qsl2 w1 0 10 = some (.ref x10) := q_eO (ci := 10) hH (q := 0) (g := 0) rfl rfl rfl rfl hax k1 (k2 0 _ rfl) (by decide) rfl
  obtain ⟨pt, gt, at9, rt⟩ := t_ref (ci := 10) (k := 9) (g' := 21) hH (q := 0) (g := 0) rfl rfl hax (by decide) rfl (by decide) hr9
  obtain ⟨pd, gd, ad9, rd⟩ := t_ref (ci := 10) (k := 10) (g' := 21) hH (q := 0) (g := 0) rfl rfl hax (by decide) rfl (by decide) hr10
  have ht0 : qsl2 w1 pt 0 = some (.ref x90) := q_eO (ci := 0) hH gt rfl rfl rfl at9 k1 (k2 68 _ rfl) (by decide) rfl
  obtain ⟨t0, gt0, at0, rt0⟩ := t_ref (ci := 0) (k := 0) (g' := 22) hH gt rfl at9 (by decide) rfl (by decide) ht0
  have ht3 : qsl2 w1 pt 3 = some (.ref x93) := q_eO (ci := 0) hH gt rfl rfl rfl at9 k1 (k2 68 _ rfl) (by decide) rfl
  obtain ⟨t3, gt3, at3, rt3⟩ := t_ref (ci := 0) (k := 3) (g' := 25) hH gt rfl at9 (by decide) rfl (by decide) ht3
  have ht4 : qsl2 w1 pt 4 = some (.ref x94) := q_eO (ci := 0) hH gt rfl rfl rfl at9 k1 (k2 68 _ rfl) (by decide) rfl
  obtain ⟨t4, gt4, at4, rt4⟩ := t_ref (ci := 0) (k := 4) (g' := 26) hH gt rfl at9 (by decide) rfl (by decide) ht4
  have hd0 : qsl2 w1 pd 0 = some (.ref x100) := q_eO (ci := 0) hH gd rfl rfl rfl ad9 k1 (k2 69 _ rfl) (by decide) rfl
  obtain ⟨d0, gd0, ad0, rd0⟩ := t_ref (ci := 0) (k := 0) (g' := 22) hH gd rfl ad9 (by decide) rfl (by decide) hd0
  have hd3 : qsl2 w1 pd 3 = some (.ref x103) := q_eO (ci := 0) hH gd rfl rfl rfl ad9 k1 (k2 69 _ rfl) (by decide) rfl
  obtain ⟨d3, gd3, ad3, rd3⟩ := t_ref (ci := 0) (k := 3) (g' := 25) hH gd rfl ad9 (by decide) rfl (by decide) hd3
  have hd4 : qsl2 w1 pd 4 = some (.ref x104) := q_eO (ci := 0) hH gd rfl rfl rfl ad9 k1 (k2 69 _ rfl) (by decide) rfl
  obtain ⟨d4, gd4, ad4, rd4⟩ := t_ref (ci := 0) (k := 4) (g' := 26) hH gd rfl ad9 (by decide) rfl (by decide) hd4
  refine ⟨?_, ?_⟩
  · refine ⟨pt, t0, t3, t4, pd, d0, d3, d4, ⟨gt, gt0, gt3, gt4, rt0, rt3, rt4⟩, ⟨gd, gd0, gd3, gd4, rd0, rd3, rd4⟩, ⟨adr_ne at9 ad9 (fun h => absurd (d2 68 69 _ _ rfl rfl h) (by decide)), adr_ne at0 ad0 (fun h => absurd (d2 70 78 _ _ rfl rfl h) (by decide)), adr_ne at3 ad3 (fun h => absurd (d2 73 81 _ _ rfl rfl h) (by decide)), adr_ne at4 ad4 (fun h => absurd (d2 74 82 _ _ rfl rfl h) (by decide))⟩, rt, rd, Nat.zero_le _, Nat.zero_le _, ?_, ?_, fun i hi => absurd hi (Nat.not_lt_zero i), fun i hi => absurd hi (Nat.not_lt_zero i), fun i hi => absurd hi (Nat.not_lt_zero i)⟩
    · exact q_eO (ci := 0) hH gt rfl rfl rfl at9 k1 (k2 68 _ rfl) (by decide) rfl
    · exact q_eO (ci := 0) hH gt rfl rfl rfl at9 k1 (k2 68 _ rfl) (by decide) rfl
  · have hr3 : qsl2 w1 0 3 = some (.ref x3) := q_eO (ci := 10) hH (q := 0) (g := 0) rfl rfl rfl rfl hax k1 (k2 0 _ rfl) (by decide) rfl
    obtain ⟨p5, g5, a5, r5⟩ := t_ref (ci := 10) (k := 3) (g' := 5) hH (q := 0) (g := 0) rfl rfl hax (by decide) rfl (by decide) hr3
    have e5 : p5 = 5 := (q_Dok cDok).2.2.1 p5 5 g5 (by decide)
    subst e5
    have hm0 : qsl2 w1 5 0 = some (.ref ma) := q_eR hH (q := 5) (g := 5) rfl rfl (.inl rfl) a5 k1 (k2 14 _ rfl) (by decide) m0
    obtain ⟨p0, gp0, ap0, rp0⟩ := t_refA (q := 5) (g := 5) (k := 0) (g' := 37) hH rfl rfl a5 (by decide) rfl (by decide) hm0
    have hl0 : qsl2 w1 p0 5 = some (.int 0) := q_eO (ci := 3) hH gp0 rfl rfl rfl ap0 k1 (k2 15 _ rfl) (by decide) rfl
    have hm1 : qsl2 w1 5 1 = some (.ref mb) := q_eR hH (q := 5) (g := 5) rfl rfl (.inl rfl) a5 k1 (k2 14 _ rfl) (by decide) m1
    obtain ⟨p1, gp1, ap1, rp1⟩ := t_refA (q := 5) (g := 5) (k := 1) (g' := 37) hH rfl rfl a5 (by decide) rfl (by decide) hm1
    have hl1 : qsl2 w1 p1 5 = some (.int 0) := q_eO (ci := 3) hH gp1 rfl rfl rfl ap1 k1 (k2 25 _ rfl) (by decide) rfl
    have hm2 : qsl2 w1 5 2 = some (.ref mc) := q_eR hH (q := 5) (g := 5) rfl rfl (.inl rfl) a5 k1 (k2 14 _ rfl) (by decide) m2
    obtain ⟨p2, gp2, ap2, rp2⟩ := t_refA (q := 5) (g := 5) (k := 2) (g' := 37) hH rfl rfl a5 (by decide) rfl (by decide) hm2
    have hl2 : qsl2 w1 p2 5 = some (.int 0) := q_eO (ci := 3) hH gp2 rfl rfl rfl ap2 k1 (k2 35 _ rfl) (by decide) rfl
    have hm3 : qsl2 w1 5 3 = some (.ref md) := q_eR hH (q := 5) (g := 5) rfl rfl (.inl rfl) a5 k1 (k2 14 _ rfl) (by decide) m3
    obtain ⟨p3, gp3, ap3, rp3⟩ := t_refA (q := 5) (g := 5) (k := 3) (g' := 37) hH rfl rfl a5 (by decide) rfl (by decide) hm3
    have hl3 : qsl2 w1 p3 5 = some (.int 0) := q_eO (ci := 3) hH gp3 rfl rfl rfl ap3 k1 (k2 45 _ rfl) (by decide) rfl
    have hr2 : qsl2 w1 0 2 = some (.ref x2) := q_eO (ci := 10) hH (q := 0) (g := 0) rfl rfl rfl rfl hax k1 (k2 0 _ rfl) (by decide) rfl
    obtain ⟨pn, gpn, apn, rpn⟩ := t_ref (ci := 10) (k := 2) (g' := 37) hH (q := 0) (g := 0) rfl rfl hax (by decide) rfl (by decide) hr2
    have hq0 : qsl2 w1 pn 2 = some (.ref x2q) := q_eO (ci := 3) hH gpn rfl rfl rfl apn k1 (k2 4 _ rfl) (by decide) rfl
    obtain ⟨q0, gq0, aq0, rq0⟩ := t_ref (ci := 3) (k := 2) (g' := 39) hH gpn rfl apn (by decide) rfl (by decide) hq0
    have hg0 : qsl2 w1 pn 4 = some (.int 0) := q_eO (ci := 3) hH gpn rfl rfl rfl apn k1 (k2 4 _ rfl) (by decide) rfl
    have he0 : ∀ i, i < 8 → qsl2 w1 q0 i = some (.int (fx2q i)) := q_eI hH gq0 rfl (.inl rfl) aq0 k1 (k2 13 _ rfl)
    have hq1 : qsl2 w1 p0 2 = some (.ref maq) := q_eO (ci := 3) hH gp0 rfl rfl rfl ap0 k1 (k2 15 _ rfl) (by decide) rfl
    obtain ⟨q1, gq1, aq1, rq1⟩ := t_ref (ci := 3) (k := 2) (g' := 39) hH gp0 rfl ap0 (by decide) rfl (by decide) hq1
    have hg1 : qsl2 w1 p0 4 = some (.int 0) := q_eO (ci := 3) hH gp0 rfl rfl rfl ap0 k1 (k2 15 _ rfl) (by decide) rfl
    have he1 : ∀ i, i < 8 → qsl2 w1 q1 i = some (.int (fmaq i)) := q_eI hH gq1 rfl (.inl rfl) aq1 k1 (k2 24 _ rfl)
    have hq2 : qsl2 w1 p1 2 = some (.ref mbq) := q_eO (ci := 3) hH gp1 rfl rfl rfl ap1 k1 (k2 25 _ rfl) (by decide) rfl
    obtain ⟨q2, gq2, aq2, rq2⟩ := t_ref (ci := 3) (k := 2) (g' := 39) hH gp1 rfl ap1 (by decide) rfl (by decide) hq2
    have hg2 : qsl2 w1 p1 4 = some (.int 0) := q_eO (ci := 3) hH gp1 rfl rfl rfl ap1 k1 (k2 25 _ rfl) (by decide) rfl
    have he2 : ∀ i, i < 8 → qsl2 w1 q2 i = some (.int (fmbq i)) := q_eI hH gq2 rfl (.inl rfl) aq2 k1 (k2 34 _ rfl)
    have hq3 : qsl2 w1 p2 2 = some (.ref mcq) := q_eO (ci := 3) hH gp2 rfl rfl rfl ap2 k1 (k2 35 _ rfl) (by decide) rfl
    obtain ⟨q3, gq3, aq3, rq3⟩ := t_ref (ci := 3) (k := 2) (g' := 39) hH gp2 rfl ap2 (by decide) rfl (by decide) hq3
    have hg3 : qsl2 w1 p2 4 = some (.int 0) := q_eO (ci := 3) hH gp2 rfl rfl rfl ap2 k1 (k2 35 _ rfl) (by decide) rfl
    have he3 : ∀ i, i < 8 → qsl2 w1 q3 i = some (.int (fmcq i)) := q_eI hH gq3 rfl (.inl rfl) aq3 k1 (k2 44 _ rfl)
    have hq4 : qsl2 w1 p3 2 = some (.ref mdq) := q_eO (ci := 3) hH gp3 rfl rfl rfl ap3 k1 (k2 45 _ rfl) (by decide) rfl
    obtain ⟨q4, gq4, aq4, rq4⟩ := t_ref (ci := 3) (k := 2) (g' := 39) hH gp3 rfl ap3 (by decide) rfl (by decide) hq4
    have hg4 : qsl2 w1 p3 4 = some (.int 0) := q_eO (ci := 3) hH gp3 rfl rfl rfl ap3 k1 (k2 45 _ rfl) (by decide) rfl
    have he4 : ∀ i, i < 8 → qsl2 w1 q4 i = some (.int (fmdq i)) := q_eI hH gq4 rfl (.inl rfl) aq4 k1 (k2 54 _ rfl)
    refine ⟨fun j => if j = 0 then fx2q else if j = 1 then fmaq else if j = 2 then fmbq else if j = 3 then fmcq else fmdq, fun j => if j = 0 then pn else if j = 1 then p0 else if j = 2 then p1 else if j = 3 then p2 else p3, fun j => if j = 0 then q0 else if j = 1 then q1 else if j = 2 then q2 else if j = 3 then q3 else q4, fun j hj => ?_, rpn, fun k hk => ?_, fun i j hi hj h => ?_, fun i j hi hj h => ?_⟩
    · have : j = 0 ∨ j = 1 ∨ j = 2 ∨ j = 3 ∨ j = 4 := by omega
      rcases this with rfl | rfl | rfl | rfl | rfl
      · exact ⟨gpn, gq0, rq0, hg0, he0⟩
      · exact ⟨gp0, gq1, rq1, hg1, he1⟩
      · exact ⟨gp1, gq2, rq2, hg2, he2⟩
      · exact ⟨gp2, gq3, rq3, hg3, he3⟩
      · exact ⟨gp3, gq4, rq4, hg4, he4⟩
    · have : k = 0 ∨ k = 1 ∨ k = 2 ∨ k = 3 := by omega
      rcases this with rfl | rfl | rfl | rfl
      · exact ⟨rp0, hl0, .inl rfl⟩
      · exact ⟨rp1, hl1, .inl rfl⟩
      · exact ⟨rp2, hl2, .inl rfl⟩
      · exact ⟨rp3, hl3, .inl rfl⟩
    · have hi9 : i = 0 ∨ i = 1 ∨ i = 2 ∨ i = 3 ∨ i = 4 := by omega
      have hj9 : j = 0 ∨ j = 1 ∨ j = 2 ∨ j = 3 ∨ j = 4 := by omega
      rcases hi9 with rfl | rfl | rfl | rfl | rfl <;> rcases hj9 with rfl | rfl | rfl | rfl | rfl
      · rfl
      · exact absurd (show pn = p0 from h) (adr_ne apn ap0 (fun h => absurd (d2 4 15 _ _ rfl rfl h) (by decide)))
      · exact absurd (show pn = p1 from h) (adr_ne apn ap1 (fun h => absurd (d2 4 25 _ _ rfl rfl h) (by decide)))
      · exact absurd (show pn = p2 from h) (adr_ne apn ap2 (fun h => absurd (d2 4 35 _ _ rfl rfl h) (by decide)))
      · exact absurd (show pn = p3 from h) (adr_ne apn ap3 (fun h => absurd (d2 4 45 _ _ rfl rfl h) (by decide)))
      · exact absurd (show p0 = pn from h) (adr_ne ap0 apn (fun h => absurd (d2 15 4 _ _ rfl rfl h) (by decide)))
      · rfl
      · exact absurd (show p0 = p1 from h) (adr_ne ap0 ap1 (fun h => absurd (d2 15 25 _ _ rfl rfl h) (by decide)))
      · exact absurd (show p0 = p2 from h) (adr_ne ap0 ap2 (fun h => absurd (d2 15 35 _ _ rfl rfl h) (by decide)))
      · exact absurd (show p0 = p3 from h) (adr_ne ap0 ap3 (fun h => absurd (d2 15 45 _ _ rfl rfl h) (by decide)))
      · exact absurd (show p1 = pn from h) (adr_ne ap1 apn (fun h => absurd (d2 25 4 _ _ rfl rfl h) (by decide)))
      · exact absurd (show p1 = p0 from h) (adr_ne ap1 ap0 (fun h => absurd (d2 25 15 _ _ rfl rfl h) (by decide)))
      · rfl
      · exact absurd (show p1 = p2 from h) (adr_ne ap1 ap2 (fun h => absurd (d2 25 35 _ _ rfl rfl h) (by decide)))
      · exact absurd (show p1 = p3 from h) (adr_ne ap1 ap3 (fun h => absurd (d2 25 45 _ _ rfl rfl h) (by decide)))
      · exact absurd (show p2 = pn from h) (adr_ne ap2 apn (fun h => absurd (d2 35 4 _ _ rfl rfl h) (by decide)))
      · exact absurd (show p2 = p0 from h) (adr_ne ap2 ap0 (fun h => absurd (d2 35 15 _ _ rfl rfl h) (by decide)))
      · exact absurd (show p2 = p1 from h) (adr_ne ap2 ap1 (fun h => absurd (d2 35 25 _ _ rfl rfl h) (by decide)))
      · rfl
      · exact absurd (show p2 = p3 from h) (adr_ne ap2 ap3 (fun h => absurd (d2 35 45 _ _ rfl rfl h) (by decide)))
      · exact absurd (show p3 = pn from h) (adr_ne ap3 apn (fun h => absurd (d2 45 4 _ _ rfl rfl h) (by decide)))
      · exact absurd (show p3 = p0 from h) (adr_ne ap3 ap0 (fun h => absurd (d2 45 15 _ _ rfl rfl h) (by decide)))
      · exact absurd (show p3 = p1 from h) (adr_ne ap3 ap1 (fun h => absurd (d2 45 25 _ _ rfl rfl h) (by decide)))
      · exact absurd (show p3 = p2 from h) (adr_ne ap3 ap2 (fun h => absurd (d2 45 35 _ _ rfl rfl h) (by decide)))
      · rfl
    · have hi9 : i = 0 ∨ i = 1 ∨ i = 2 ∨ i = 3 ∨ i = 4 := by omega
      have hj9 : j = 0 ∨ j = 1 ∨ j = 2 ∨ j = 3 ∨ j = 4 := by omega
      rcases hi9 with rfl | rfl | rfl | rfl | rfl <;> rcases hj9 with rfl | rfl | rfl | rfl | rfl
      · rfl
      · exact absurd (show q0 = q1 from h) (adr_ne aq0 aq1 (fun h => absurd (d2 13 24 _ _ rfl rfl h) (by decide)))
      · exact absurd (show q0 = q2 from h) (adr_ne aq0 aq2 (fun h => absurd (d2 13 34 _ _ rfl rfl h) (by decide)))
      · exact absurd (show q0 = q3 from h) (adr_ne aq0 aq3 (fun h => absurd (d2 13 44 _ _ rfl rfl h) (by decide)))
      · exact absurd (show q0 = q4 from h) (adr_ne aq0 aq4 (fun h => absurd (d2 13 54 _ _ rfl rfl h) (by decide)))
      · exact absurd (show q1 = q0 from h) (adr_ne aq1 aq0 (fun h => absurd (d2 24 13 _ _ rfl rfl h) (by decide)))
      · rfl
      · exact absurd (show q1 = q2 from h) (adr_ne aq1 aq2 (fun h => absurd (d2 24 34 _ _ rfl rfl h) (by decide)))
      · exact absurd (show q1 = q3 from h) (adr_ne aq1 aq3 (fun h => absurd (d2 24 44 _ _ rfl rfl h) (by decide)))
      · exact absurd (show q1 = q4 from h) (adr_ne aq1 aq4 (fun h => absurd (d2 24 54 _ _ rfl rfl h) (by decide)))
      · exact absurd (show q2 = q0 from h) (adr_ne aq2 aq0 (fun h => absurd (d2 34 13 _ _ rfl rfl h) (by decide)))
      · exact absurd (show q2 = q1 from h) (adr_ne aq2 aq1 (fun h => absurd (d2 34 24 _ _ rfl rfl h) (by decide)))
      · rfl
      · exact absurd (show q2 = q3 from h) (adr_ne aq2 aq3 (fun h => absurd (d2 34 44 _ _ rfl rfl h) (by decide)))
      · exact absurd (show q2 = q4 from h) (adr_ne aq2 aq4 (fun h => absurd (d2 34 54 _ _ rfl rfl h) (by decide)))
      · exact absurd (show q3 = q0 from h) (adr_ne aq3 aq0 (fun h => absurd (d2 44 13 _ _ rfl rfl h) (by decide)))
      · exact absurd (show q3 = q1 from h) (adr_ne aq3 aq1 (fun h => absurd (d2 44 24 _ _ rfl rfl h) (by decide)))
      · exact absurd (show q3 = q2 from h) (adr_ne aq3 aq2 (fun h => absurd (d2 44 34 _ _ rfl rfl h) (by decide)))
      · rfl
      · exact absurd (show q3 = q4 from h) (adr_ne aq3 aq4 (fun h => absurd (d2 44 54 _ _ rfl rfl h) (by decide)))
      · exact absurd (show q4 = q0 from h) (adr_ne aq4 aq0 (fun h => absurd (d2 54 13 _ _ rfl rfl h) (by decide)))
      · exact absurd (show q4 = q1 from h) (adr_ne aq4 aq1 (fun h => absurd (d2 54 24 _ _ rfl rfl h) (by decide)))
      · exact absurd (show q4 = q2 from h) (adr_ne aq4 aq2 (fun h => absurd (d2 54 34 _ _ rfl rfl h) (by decide)))
      · exact absurd (show q4 = q3 from h) (adr_ne aq4 aq3 (fun h => absurd (d2 54 44 _ _ rfl rfl h) (by decide)))
      · rfl
set_option maxHeartbeats 4000000 in
set_option maxRecDepth 100000 in
theorem x12_told3 (γ : kΓ) (l : Launch) (z : Nat) : kM γ l yX12_init cX12_init 1 none ({ frames := 1, cells := 41, slots := 7641, locals := 24 } : Room) [.ref z] [(z, .inr (11, [.int 0, .int 0, .null, .int 0, .int 0, .int 0, .int 0, .long 0, .int 0, .int 0, .null, .null, .null, .null, .null, .null, .null, .null, .null, .null, .int 0, .int 0, .null, .null, .null, .null, .null, .null, .null, .null, .null, .null, .null, .null, .int 0, .long 0, .null, .null, .null, .null, .null, .null, .null, .null, .null, .null, .null, .null, .null, .int 0, .int 0, .int 0, .int 0, .int 0, .int 0, .null, .null, .int 0, .int 0, .null, .null, .null, .int 0, .long 0]))] (fun r w1 => (bX γ mD z r w1 ∧ mX w1 ∧ qsl2 w1 0 1 = some (.int 0)) ∧ mTo w1 ((0, 0, fun _ => 0, fun _ => 0, fun _ => 0) : tS) ∧ mL w1 (fun _ => 0) ∧ mG w1 (fun _ => 0) (fun _ _ => 0) (fun _ _ => 0)) := by
  refine k_imp (k_and (b_X12 γ l z) (c_X12_init γ l z) ⟨Nat.le_refl _, Nat.le_refl _, Nat.le_refl _, Nat.le_refl _⟩ [0] rfl rfl) (fun r w1 hq => ?_)
  obtain ⟨hb, H, w2, hP, k1, k2⟩ := hq
  refine ⟨hb, ?_⟩
  obtain ⟨⟨hr0, hH, hax⟩, hX, hz⟩ := hb
  clear hX hz
  refine hP.elim (fun z2 hP => ?_)
  refine hP.elim (fun z10 hP => ?_)
  refine hP.elim (fun z11 hP => ?_)
  refine hP.elim (fun z12 hP => ?_)
  refine hP.elim (fun z13 hP => ?_)
  refine hP.elim (fun z14 hP => ?_)
  refine hP.elim (fun z15 hP => ?_)
  refine hP.elim (fun z16 hP => ?_)
  refine hP.elim (fun z17 hP => ?_)
  refine hP.elim (fun z18 hP => ?_)
  refine hP.elim (fun z19 hP => ?_)
  refine hP.elim (fun z22 hP => ?_)
  refine hP.elim (fun z23 hP => ?_)
  refine hP.elim (fun z24 hP => ?_)
  refine hP.elim (fun z25 hP => ?_)
  refine hP.elim (fun z26 hP => ?_)
  refine hP.elim (fun z27 hP => ?_)
  refine hP.elim (fun z28 hP => ?_)
  refine hP.elim (fun z29 hP => ?_)
  refine hP.elim (fun z30 hP => ?_)
  refine hP.elim (fun z31 hP => ?_)
  refine hP.elim (fun z32 hP => ?_)
  refine hP.elim (fun z33 hP => ?_)
  refine hP.elim (fun z36 hP => ?_)
  refine hP.elim (fun z37 hP => ?_)
  refine hP.elim (fun z38 hP => ?_)
  refine hP.elim (fun z39 hP => ?_)
  refine hP.elim (fun z40 hP => ?_)
  refine hP.elim (fun z41 hP => ?_)
  refine hP.elim (fun z42 hP => ?_)
  refine hP.elim (fun z43 hP => ?_)
  refine hP.elim (fun z44 hP => ?_)
  refine hP.elim (fun z45 hP => ?_)
  refine hP.elim (fun z46 hP => ?_)
  refine hP.elim (fun z47 hP => ?_)
  refine hP.elim (fun z48 hP => ?_)
  refine hP.elim (fun z55 hP => ?_)
  refine hP.elim (fun z56 hP => ?_)
  refine hP.elim (fun z59 hP => ?_)
  refine hP.elim (fun z60 hP => ?_)
  refine hP.elim (fun z61 hP => ?_)
  refine hP.elim (fun fa hP => ?_)
  obtain ⟨-, hw2, f0, f1, -, -, -, -, -, -, -, -⟩ := hP
  subst hw2
  have ha : ((w1.map Prod.fst)[2]?) = some z10 := by
    obtain ⟨fs, e1, e2, e3⟩ := q_objAt hH (q := 0) (g := 0) (ci := 11) rfl rfl hax
    obtain ⟨v, v1, v2⟩ := e3 10 (by decide)
    obtain ⟨a, e, h2⟩ := q_sg2 mDok (g := 2) (by decide) v2
    subst e
    have h3 : qsl2 w1 0 10 = some (.ref a) := by
      unfold qsl2
      rw [e1]
      exact v1
    rw [q_eO (ci := 11) hH (q := 0) (g := 0) rfl rfl rfl rfl hax k1 (k2 0 _ rfl) (k := 10) (v := .ref z10) (by decide) rfl] at h3
    have h3 := Value.ref.inj (Option.some.inj h3)
    rw [h3]
    exact h2
  have hb9 : ((w1.map Prod.fst)[36]?) = some z48 := by
    obtain ⟨fs, e1, e2, e3⟩ := q_objAt hH (q := 0) (g := 0) (ci := 11) rfl rfl hax
    obtain ⟨v, v1, v2⟩ := e3 48 (by decide)
    obtain ⟨a, e, h2⟩ := q_sg2 mDok (g := 36) (by decide) v2
    subst e
    have h3 : qsl2 w1 0 48 = some (.ref a) := by
      unfold qsl2
      rw [e1]
      exact v1
    rw [q_eO (ci := 11) hH (q := 0) (g := 0) rfl rfl rfl rfl hax k1 (k2 0 _ rfl) (k := 48) (v := .ref z48) (by decide) rfl] at h3
    have h3 := Value.ref.inj (Option.some.inj h3)
    rw [h3]
    exact h2
  have hb1 : ((w1.map Prod.fst)[28]?) = some z40 := by
    obtain ⟨fs, e1, e2, e3⟩ := q_objAt hH (q := 0) (g := 0) (ci := 11) rfl rfl hax
    obtain ⟨v, v1, v2⟩ := e3 40 (by decide)
    obtain ⟨a, e, h2⟩ := q_sg2 mDok (g := 28) (by decide) v2
    subst e
    have h3 : qsl2 w1 0 40 = some (.ref a) := by
      unfold qsl2
      rw [e1]
      exact v1
    rw [q_eO (ci := 11) hH (q := 0) (g := 0) rfl rfl rfl rfl hax k1 (k2 0 _ rfl) (k := 40) (v := .ref z40) (by decide) rfl] at h3
    have h3 := Value.ref.inj (Option.some.inj h3)
    rw [h3]
    exact h2
  have hb2 : ((w1.map Prod.fst)[29]?) = some z41 := by
    obtain ⟨fs, e1, e2, e3⟩ := q_objAt hH (q := 0) (g := 0) (ci := 11) rfl rfl hax
    obtain ⟨v, v1, v2⟩ := e3 41 (by decide)
    obtain ⟨a, e, h2⟩ := q_sg2 mDok (g := 29) (by decide) v2
    subst e
    have h3 : qsl2 w1 0 41 = some (.ref a) := by
      unfold qsl2
      rw [e1]
      exact v1
    rw [q_eO (ci := 11) hH (q := 0) (g := 0) rfl rfl rfl rfl hax k1 (k2 0 _ rfl) (k := 41) (v := .ref z41) (by decide) rfl] at h3
    have h3 := Value.ref.inj (Option.some.inj h3)
    rw [h3]
    exact h2
  have hb3 : ((w1.map Prod.fst)[30]?) = some z42 := by
    obtain ⟨fs, e1, e2, e3⟩ := q_objAt hH (q := 0) (g := 0) (ci := 11) rfl rfl hax
    obtain ⟨v, v1, v2⟩ := e3 42 (by decide)
    obtain ⟨a, e, h2⟩ := q_sg2 mDok (g := 30) (by decide) v2
    subst e
    have h3 : qsl2 w1 0 42 = some (.ref a) := by
      unfold qsl2
      rw [e1]
      exact v1
    rw [q_eO (ci := 11) hH (q := 0) (g := 0) rfl rfl rfl rfl hax k1 (k2 0 _ rfl) (k := 42) (v := .ref z42) (by decide) rfl] at h3
    have h3 := Value.ref.inj (Option.some.inj h3)
    rw [h3]
    exact h2
  refine ⟨?_, ?_, fun j hj => ⟨q_eI hH (q := 28) (g := 28) rfl rfl (.inl rfl) hb1 k1 (k2 28 _ rfl) j hj, fun i hi => ⟨q_eI hH (q := 29) (g := 29) rfl rfl (.inl rfl) hb2 k1 (k2 29 _ rfl) _ (by omega), q_eI hH (q := 30) (g := 30) rfl rfl (.inr (.inr rfl)) hb3 k1 (k2 30 _ rfl) _ (by omega)⟩⟩⟩
  · refine ⟨Nat.zero_le _, Nat.zero_le _, ?_, ?_, fun i hi => absurd hi (Nat.not_lt_zero i), fun i hi => absurd hi (Nat.not_lt_zero i), fun i hi => absurd hi (Nat.not_lt_zero i)⟩
    · rw [q_eI hH (q := 2) (g := 2) rfl rfl (.inl rfl) ha k1 (k2 2 _ rfl) 0 (by decide), f0]
      rfl
    · rw [q_eI hH (q := 2) (g := 2) rfl rfl (.inl rfl) ha k1 (k2 2 _ rfl) 1 (by decide), f1]
      rfl
  · intro k hk
    exact q_eI hH (q := 36) (g := 36) rfl rfl (.inr (.inr rfl)) hb9 k1 (k2 36 _ rfl) k (by omega)

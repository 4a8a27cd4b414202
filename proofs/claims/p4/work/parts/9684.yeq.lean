/-! years: both sides -/
/-- what is told, as if it stood where the one that is read stands -/
def shB (b : mAS) : mAS := (fun i => b.1 (i - 5), fun i => b.2.1 (i - 8), fun i => b.2.2.1 (i - 5), (b.2.2.2.1), (b.2.2.2.2.1), fun i => (b.2.2.2.2.2.1) (i - 8), (b.2.2.2.2.2.2.1), (b.2.2.2.2.2.2.2.1), (b.2.2.2.2.2.2.2.2.1), (b.2.2.2.2.2.2.2.2.2.1), (b.2.2.2.2.2.2.2.2.2.2.1), (b.2.2.2.2.2.2.2.2.2.2.2))
section YR
variable {f g : Nat → Int32} {n : Nat}
theorem th0_sh {rs' : mRS} {b : mAS} : F_m_thoughtNamed0 g n rs' b = F_m_thoughtNamed1 g n rs' (shB b) := by
  have e : (fun i => b.2.1 (0 + i)) = (fun i => b.2.1 (8 + i - 8)) := funext (fun i => by rw [Nat.zero_add, Nat.add_sub_cancel_left])
  show pl (fun i => b.2.1 (0 + i)) (mw g n rs'.2.1) ((b.1 0).toNatClampNeg) 0 = pl (fun i => b.2.1 (8 + i - 8)) (mw g n rs'.2.1) ((b.1 0).toNatClampNeg) 0
  rw [e]
theorem tn0_sh {rs' : mRS} {b : mAS} : F_m_tenantNamed0 g n rs' b = F_m_tenantNamed1 g n rs' (shB b) := by
  have e : (fun i => b.2.2.1 (0 + i)) = (fun i => b.2.2.1 (5 + i - 5)) := funext (fun i => by rw [Nat.zero_add, Nat.add_sub_cancel_left])
  show pl (fun i => b.2.2.1 (0 + i)) (mw g n rs'.2.1) ((b.1 1).toNatClampNeg) 0 = pl (fun i => b.2.2.1 (5 + i - 5)) (mw g n rs'.2.1) ((b.1 1).toNatClampNeg) 0
  rw [e]
theorem nt0_sh {rs' : mRS} {b : mAS} : F_m_needsThought0 g n rs' b = F_m_needsThought1 g n rs' (shB b) := by
  unfold F_m_needsThought0 F_m_needsThought1
  rw [th0_sh]
theorem tnh_f {rs : rRS} {a : aAS} (h : ¬ rs.1 = 0) : (F_tenantHere f n rs a).2 = rs := by
  unfold F_tenantHere F_foundHere
  simp only [fail_f h]
  repeat' split
  all_goals rfl
theorem o_tnh (hfg : ∀ k, k < n → f k = g k) (hn : n ≤ 1000) {rs : rRS} {rs' : mRS} {a : aAS} {b : mAS} (hA : aOK a) (hR : AR a b) (h0 : rs.1 = 0) (hp : rs.2.1 = rs'.2.1) (hc : cur f g n rs) :
    ((F_tenantHere f n rs a).2 = rs ∧ F_m_isKept g n rs' = 0 ∧ 0 ≤ F_m_tenantNamed1 g n rs' b) ∨
    (¬ (F_tenantHere f n rs a).2.1 = 0 ∧ ((¬ F_m_isKept g n rs' = 0 ∧ (F_m_fails g n rs' 1).1 = (F_tenantHere f n rs a).2.1) ∨ (F_m_isKept g n rs' = 0 ∧ ¬ 0 ≤ F_m_tenantNamed1 g n rs' b ∧ (F_m_fails g n rs' 2).1 = (F_tenantHere f n rs a).2.1))) := by
  have hk := kept_eq (rs := rs') hfg
  rw [← hp] at hk
  have hQ : (a.2.2.2.2.2.2.2.2.1) ≤ 5 := hA.2.1
  have ff : ∀ k : Int32, (F_m_fails g n rs' k).1 = (F_fail f n rs k).1 := fun k => by
    show k + 16 * nI (ts g n rs'.2.1) = _
    rw [fail_0 h0, hp, ts_same hfg]
  unfold F_tenantHere F_foundHere
  by_cases hm : kWm.getD (tw f n rs.2.1) 0 = 0
  · have h1 : ¬ F_m_isKept g n rs' = 0 := fun h => (hk.mp h) hm
    rw [if_pos hm, if_neg (fl_ne hn (by decide) (by decide))]
    exact .inr ⟨fl_ne hn (by decide) (by decide), .inl ⟨h1, ff 1⟩⟩
  · have h1 : F_m_isKept g n rs' = 0 := hk.mpr hm
    have hx : nR rs.2.2.2 (mw g n rs'.2.1) := by rw [← hp]; exact hc.2 (name_w hfg hm)
    rw [if_neg hm, ← n_tn hA hR hx]
    rcases tn_cases (x := rs.2.2.2) hA with e | ⟨j, hj, e⟩
    · rw [e, if_pos rfl, if_neg (fl_ne hn (by decide) (by decide))]
      exact .inr ⟨fl_ne hn (by decide) (by decide), .inr ⟨h1, by decide, ff 2⟩⟩
    · rw [e, if_neg (nI_m1 (by omega)), if_pos h0]
      exact .inl ⟨rfl, h1, nI_pos' (by omega)⟩
/-- one line -/
def YLO (f g : Nat → Int32) (n : Nat) (r0 : mRS) (x : rRS × Nat × (Nat → Int32)) (y : Int32 × mRS × (Nat → Int32) × (Nat → Int32) × (Nat → Int32) × (Nat → Int32)) : Prop :=
  (x.1.1 = 0 ∧ ¬ y.1 = 0 ∧ x.1.2.1 = y.2.1.2.1 ∧ cur f g n x.1 ∧ y.2.2.1 5 = nI x.2.1 ∧ ts g n r0.2.1 < ts g n y.2.1.2.1) ∨ (¬ x.1.1 = 0 ∧ y.1 = 0 ∧ y.2.1.1 = x.1.1)
theorem s_line (hfg : ∀ k, k < n → f k = g k) (hn : n ≤ 1000) {rs : rRS} {rs' : mRS} {a : aAS} {b : mAS} {mm : Nat} {ln li lw la lb : Nat → Int32} (hA : aOK a) (hR : AR a (shB b)) (h0 : rs.1 = 0) (hp : rs.2.1 = rs'.2.1) (hlt : ts g n rs'.2.1 < n) (hL : li 5 = nI mm) (hmm : mm ≤ 40) :
    YLO f g n rs' (F_readLine f n rs a mm ln) (F_m_readsLine g n rs' b li lw la lb) := by
  have hpa : te f n rs.2.1 = te g n rs'.2.1 := by rw [hp, te_same hfg]
  have hpb : te f n (te f n rs.2.1) = te g n (te g n rs'.2.1) := by rw [hpa, te_same hfg]
  have lup : (upd li 5 (li 5 + 1)) 5 = nI (mm + 1) := by
    show (if (5 : Nat) = 5 then li 5 + 1 else li 5) = _
    rw [if_pos rfl, hL]
    exact nI_1 _
  have h9 := ts_adv hlt
  have hT := o_tnh hfg hn (rs := av f n rs) (rs' := mv g n rs') hA hR h0 hpa (cur_av hfg)
  unfold F_readLine F_m_readsLine
  rw [hp]
  by_cases w12 : tw f n rs'.2.1 = 12
  · have hd : ¬ F_isDeed (tw f n rs'.2.1) = 0 := by rw [w12]; decide
    rw [if_neg hd, if_neg (wd1 (r := rs') hfg (i := 12) (x := 10793234) (by decide) (by decide) (by decide) w12)]
    by_cases h40 : mm < 40
    · have c40 : nI mm < 40 := nI_lt h40 (by decide)
      have m40 : ¬ li 5 = 40 := by
        rw [hL]
        intro e
        have := (nI_eq (by omega) (by decide)).mp (e.trans (show (40 : Int32) = nI 40 from rfl))
        omega
      rw [if_pos c40, if_neg m40, if_neg (show ¬ tw f n rs'.2.1 = 13 by rw [w12]; decide)]
      rcases hT with ⟨a2, a3, a4⟩ | ⟨a1, a2⟩
      · rw [a2, if_pos a3, tn0_sh, if_pos a4, puf_0 (rs := av f n rs) h0]
        rcases o_th hfg hn (rs := av f n (av f n rs)) (rs' := mv g n (mv g n rs')) hA hR h0 hpb (cur_av hfg) with ⟨b1, b2, b3, b4, b5, -⟩ | ⟨b1, b2, b3⟩
        · rw [nt0_sh, if_neg b2, puf_0 b1]
          have hpc : te f n (F_thoughtHere f n (av f n (av f n rs)) a).2.2.1 = te g n (F_m_needsThought1 g n (mv g n (mv g n rs')) (shB b)).2.2.1 := by rw [b3, te_same hfg]
          rcases o_close hfg hn (rs := av f n (F_thoughtHere f n (av f n (av f n rs)) a).2) (rs' := mv g n (F_m_needsThought1 g n (mv g n (mv g n rs')) (shB b)).2) b1 hpc with ⟨d1, d2, d3, d4, d5, -⟩ | ⟨d1, d2, d3⟩
          · rw [if_pos d1]
            refine .inl ⟨d1, d2, d3, d4, lup, ?_⟩
            have b5 : ts g n (te g n (te g n rs'.2.1)) ≤ _ := b5
            have d5 : ts g n (te g n (F_m_needsThought1 g n (mv g n (mv g n rs')) (shB b)).2.2.1) ≤ _ := d5
            have m0 : ts g n (te g n rs'.2.1) ≤ ts g n (te g n (te g n rs'.2.1)) := ts_mono
            have m1 : ts g n (F_m_needsThought1 g n (mv g n (mv g n rs')) (shB b)).2.2.1 ≤ ts g n (te g n (F_m_needsThought1 g n (mv g n (mv g n rs')) (shB b)).2.2.1) := ts_mono
            show ts g n rs'.2.1 < ts g n (F_m_closes g n (mv g n (F_m_needsThought1 g n (mv g n (mv g n rs')) (shB b)).2)).2.2.1
            omega
          · rw [if_neg d1]
            exact .inr ⟨d1, d2, d3⟩
        · rw [nt0_sh, if_pos b2, puf_f b1, ps_f b1, if_neg b1]
          exact .inr ⟨b1, rfl, b3⟩
      · rw [puf_f a1, th_f a1, puf_f a1, ps_f a1, if_neg a1]
        rcases a2 with ⟨k1, k2⟩ | ⟨k1, k3, k2⟩
        · rw [if_neg k1]
          exact .inr ⟨a1, rfl, k2⟩
        · rw [if_pos k1, tn0_sh, if_neg k3]
          exact .inr ⟨a1, rfl, k2⟩
    · have e40 : mm = 40 := by omega
      have c40 : ¬ nI mm < 40 := by rw [e40]; decide
      have m40 : li 5 = 40 := by rw [hL, e40]; decide
      rw [if_neg c40, if_pos m40]
      rcases o_fail (r0 := rs') (K := True) hfg hn (k := 5) h0 hp (by decide) (by decide) with ⟨x1, _⟩ | h
      · exact absurd x1 (fl_ne hn (by decide) (by decide))
      · exact .inr h
  · skip
    by_cases w13 : tw f n rs'.2.1 = 13
    · have hd : ¬ F_isDeed (tw f n rs'.2.1) = 0 := by rw [w13]; decide
      rw [if_neg hd, if_pos (wd0 (r := rs') hfg (i := 12) (x := 10793234) (by decide) (by decide) (by decide) (by rw [w13]; decide)), if_neg (wd1 (r := rs') hfg (i := 13) (x := 139055) (by decide) (by decide) (by decide) w13)]
      by_cases h40 : mm < 40
      · have c40 : nI mm < 40 := nI_lt h40 (by decide)
        have m40 : ¬ li 5 = 40 := by
          rw [hL]
          intro e
          have := (nI_eq (by omega) (by decide)).mp (e.trans (show (40 : Int32) = nI 40 from rfl))
          omega
        rw [if_pos c40, if_neg m40, if_pos w13]
        rcases hT with ⟨a2, a3, a4⟩ | ⟨a1, a2⟩
        · rw [a2, if_pos a3, tn0_sh, if_pos a4, puf_0 (rs := av f n rs) h0]
          rcases o_close hfg hn (rs := av f n (av f n rs)) (rs' := mv g n (mv g n rs')) h0 hpb with ⟨d1, d2, d3, d4, d5, -⟩ | ⟨d1, d2, d3⟩
          · rw [if_pos d1]
            refine .inl ⟨d1, d2, d3, d4, lup, ?_⟩
            have d5 : ts g n (te g n (te g n rs'.2.1)) ≤ _ := d5
            have m0 : ts g n (te g n rs'.2.1) ≤ ts g n (te g n (te g n rs'.2.1)) := ts_mono
            show ts g n rs'.2.1 < ts g n (F_m_closes g n (mv g n (mv g n rs'))).2.2.1
            omega
          · rw [if_neg d1]
            exact .inr ⟨d1, d2, d3⟩
        · rw [puf_f a1, ps_f a1, if_neg a1]
          rcases a2 with ⟨k1, k2⟩ | ⟨k1, k3, k2⟩
          · rw [if_neg k1]
            exact .inr ⟨a1, rfl, k2⟩
          · rw [if_pos k1, tn0_sh, if_neg k3]
            exact .inr ⟨a1, rfl, k2⟩
      · have e40 : mm = 40 := by omega
        have c40 : ¬ nI mm < 40 := by rw [e40]; decide
        have m40 : li 5 = 40 := by rw [hL, e40]; decide
        rw [if_neg c40, if_pos m40]
        rcases o_fail (r0 := rs') (K := True) hfg hn (k := 5) h0 hp (by decide) (by decide) with ⟨x1, _⟩ | h
        · exact absurd x1 (fl_ne hn (by decide) (by decide))
        · exact .inr h
    · skip
      by_cases w14 : tw f n rs'.2.1 = 14
      · have hd : ¬ F_isDeed (tw f n rs'.2.1) = 0 := by rw [w14]; decide
        rw [if_neg hd, if_pos (wd0 (r := rs') hfg (i := 12) (x := 10793234) (by decide) (by decide) (by decide) (by rw [w14]; decide)), if_pos (wd0 (r := rs') hfg (i := 13) (x := 139055) (by decide) (by decide) (by decide) (by rw [w14]; decide)), if_neg (wd1 (r := rs') hfg (i := 14) (x := 326280) (by decide) (by decide) (by decide) w14)]
        by_cases h40 : mm < 40
        · have c40 : nI mm < 40 := nI_lt h40 (by decide)
          have m40 : ¬ li 5 = 40 := by
            rw [hL]
            intro e
            have := (nI_eq (by omega) (by decide)).mp (e.trans (show (40 : Int32) = nI 40 from rfl))
            omega
          rw [if_pos c40, if_neg m40, if_neg (show ¬ tw f n rs'.2.1 = 13 by rw [w14]; decide)]
          rcases hT with ⟨a2, a3, a4⟩ | ⟨a1, a2⟩
          · rw [a2, if_pos a3, tn0_sh, if_pos a4, puf_0 (rs := av f n rs) h0]
            rcases o_th hfg hn (rs := av f n (av f n rs)) (rs' := mv g n (mv g n rs')) hA hR h0 hpb (cur_av hfg) with ⟨b1, b2, b3, b4, b5, -⟩ | ⟨b1, b2, b3⟩
            · rw [nt0_sh, if_neg b2, puf_0 b1]
              have hpc : te f n (F_thoughtHere f n (av f n (av f n rs)) a).2.2.1 = te g n (F_m_needsThought1 g n (mv g n (mv g n rs')) (shB b)).2.2.1 := by rw [b3, te_same hfg]
              rcases o_close hfg hn (rs := av f n (F_thoughtHere f n (av f n (av f n rs)) a).2) (rs' := mv g n (F_m_needsThought1 g n (mv g n (mv g n rs')) (shB b)).2) b1 hpc with ⟨d1, d2, d3, d4, d5, -⟩ | ⟨d1, d2, d3⟩
              · rw [if_pos d1]
                refine .inl ⟨d1, d2, d3, d4, lup, ?_⟩
                have b5 : ts g n (te g n (te g n rs'.2.1)) ≤ _ := b5
                have d5 : ts g n (te g n (F_m_needsThought1 g n (mv g n (mv g n rs')) (shB b)).2.2.1) ≤ _ := d5
                have m0 : ts g n (te g n rs'.2.1) ≤ ts g n (te g n (te g n rs'.2.1)) := ts_mono
                have m1 : ts g n (F_m_needsThought1 g n (mv g n (mv g n rs')) (shB b)).2.2.1 ≤ ts g n (te g n (F_m_needsThought1 g n (mv g n (mv g n rs')) (shB b)).2.2.1) := ts_mono
                show ts g n rs'.2.1 < ts g n (F_m_closes g n (mv g n (F_m_needsThought1 g n (mv g n (mv g n rs')) (shB b)).2)).2.2.1
                omega
              · rw [if_neg d1]
                exact .inr ⟨d1, d2, d3⟩
            · rw [nt0_sh, if_pos b2, puf_f b1, ps_f b1, if_neg b1]
              exact .inr ⟨b1, rfl, b3⟩
          · rw [puf_f a1, th_f a1, puf_f a1, ps_f a1, if_neg a1]
            rcases a2 with ⟨k1, k2⟩ | ⟨k1, k3, k2⟩
            · rw [if_neg k1]
              exact .inr ⟨a1, rfl, k2⟩
            · rw [if_pos k1, tn0_sh, if_neg k3]
              exact .inr ⟨a1, rfl, k2⟩
        · have e40 : mm = 40 := by omega
          have c40 : ¬ nI mm < 40 := by rw [e40]; decide
          have m40 : li 5 = 40 := by rw [hL, e40]; decide
          rw [if_neg c40, if_pos m40]
          rcases o_fail (r0 := rs') (K := True) hfg hn (k := 5) h0 hp (by decide) (by decide) with ⟨x1, _⟩ | h
          · exact absurd x1 (fl_ne hn (by decide) (by decide))
          · exact .inr h
      · skip
        rw [if_pos (show F_isDeed (tw f n rs'.2.1) = 0 by unfold F_isDeed; rw [if_neg w12, if_neg w13, if_neg w14]), if_pos (wd0 (r := rs') hfg (i := 12) (x := 10793234) (by decide) (by decide) (by decide) w12), if_pos (wd0 (r := rs') hfg (i := 13) (x := 139055) (by decide) (by decide) (by decide) w13), if_pos (wd0 (r := rs') hfg (i := 14) (x := 326280) (by decide) (by decide) (by decide) w14)]
        rcases o_fail (r0 := rs') (K := True) hfg hn (k := 1) h0 hp (by decide) (by decide) with ⟨x1, _⟩ | h
        · exact absurd x1 (fl_ne hn (by decide) (by decide))
        · exact .inr h
theorem ryl_f {a : aAS} {l3 : Int32} {yy : Nat → Int32} {rs : rRS} {mm : Nat} {ln : Nat → Int32} (h : ¬ rs.1 = 0) : ∀ K : Nat, (F_ryl f n a l3 yy K rs mm ln).1 = rs.1
  | 0 => by rw [F_ryl_z, if_neg h]
  | K + 1 => by
    have h9 : F_goesOn f n rs = 0 := by unfold F_goesOn; exact if_neg h
    rw [F_ryl_s, if_pos h9, if_neg h]
theorem ryl_sim (hfg : ∀ k, k < n → f k = g k) (hn : n ≤ 1000) {a : aAS} {b : mAS} {l3 : Int32} {yy : Nat → Int32} (hA : aOK a) (hR : AR a (shB b)) : ∀ (K k : Nat) (rs : rRS) (mm : Nat) (ln : Nat → Int32) (rs' : mRS) (li lw la lb : Nat → Int32), n - ts g n rs'.2.1 ≤ K → n - ts g n rs'.2.1 < k → rs.1 = 0 → rs.2.1 = rs'.2.1 → li 5 = nI mm → mm ≤ 40 → ∃ res, F_m_ryl g n b k rs' li lw la lb = some res ∧ res.1 = (F_ryl f n a l3 yy K rs mm ln).1 := by
  intro K
  induction K with
  | zero =>
    intro k rs mm ln rs' li lw la lb hK hk h0 hp hL hmm
    obtain ⟨k, rfl⟩ : ∃ j, k = j + 1 := ⟨k - 1, by omega⟩
    have h1 : mk g n rs'.2.1 = 0 := by
      unfold mk mk1
      rw [if_neg (by omega)]
    rw [F_m_ryl_s, if_pos h1, F_ryl_z, if_pos h0]
    exact ⟨_, rfl, h0.symm⟩
  | succ K ih =>
    intro k rs mm ln rs' li lw la lb hK hk h0 hp hL hmm
    obtain ⟨k, rfl⟩ : ∃ j, k = j + 1 := ⟨k - 1, by omega⟩
    rw [F_m_ryl_s, F_ryl_s]
    by_cases hz : tk f n rs.2.1 = 0
    · have h9 : F_goesOn f n rs = 0 := by
        unfold F_goesOn
        rw [if_pos h0, if_pos hz]
      have h1 : mk g n rs'.2.1 = 0 := (k0_eq hfg).mpr (by rw [← hp]; exact hz)
      rw [if_pos h9, if_pos h1, if_pos h0]
      exact ⟨_, rfl, h0.symm⟩
    · have h9 : ¬ F_goesOn f n rs = 0 := by
        unfold F_goesOn
        rw [if_pos h0, if_neg hz]
        decide
      have h1 : ¬ mk g n rs'.2.1 = 0 := fun h => hz (by rw [hp]; exact (k0_eq hfg).mp h)
      have hlt : ts g n rs'.2.1 < n := mk_lt h1
      rw [if_neg h9, if_neg h1]
      rcases s_line (mm := mm) (ln := ln) (li := li) (lw := lw) (la := la) (lb := lb) hfg hn hA hR h0 hp hlt hL hmm with ⟨a1, a2, a3, a4, a5, a6⟩ | ⟨a1, a2, a3⟩
      · rw [if_neg a2]
        exact ih k _ _ _ _ _ _ _ _ (by omega) (by omega) a1 a3 a5 (ok_readLine hmm)
      · rw [if_pos a2, ryl_f a1]
        exact ⟨_, rfl, a3⟩
theorem years_sim (hfg : ∀ k, k < n → f k = g k) (hn : n ≤ 1000) {a : aAS} {b : mAS} {t5 l3 w0 w1 w3 : Int32} {t6 w2 : Int64} {ln yy li lw la lb : Nat → Int32} {cd : Nat} (hA : aOK a) (hR : AR a (shB b)) : ∃ res, F_m_ryl g n b 1001 (w0, 0, w1, w2, w3, cd) (upd li 5 0) lw la lb = some res ∧ res.1 = (F_years f n a t5 t6 ln l3 yy).1 :=
  ryl_sim hfg hn hA hR 1000 1001 (rs0 f n t5 t6) 0 ln (w0, 0, w1, w2, w3, cd) (upd li 5 0) lw la lb (by omega) (by omega) rfl rfl (show (if (5 : Nat) = 5 then (0 : Int32) else li 5) = nI 0 from rfl) (Nat.zero_le _)
end YR
/-! what is told, as the readers' states -/
def tAg (a : aAS) (S : tS) : Prop := S.1 = (a.2.2.2.2.2.2.2.1) ∧ S.2.1 = (a.2.2.2.2.2.2.2.2.1) ∧ (∀ i, i < S.1 → a.1 i = S.2.2.1 i) ∧ (∀ i, i < S.2.1 → (a.2.2.2.2.1) i = S.2.2.2.1 i) ∧ ∀ i, i < S.1 → (a.2.2.2.1) i = S.2.2.2.2 i
def bAg (b : mAS) (S : tS) : Prop := b.1 0 = nI S.1 ∧ b.1 1 = nI S.2.1 ∧ (∀ i, i < S.1 → b.2.1 i = S.2.2.1 i) ∧ (∀ i, i < S.2.1 → b.2.2.1 i = S.2.2.2.1 i) ∧ ∀ i, i < S.1 → (b.2.2.2.2.2.1) i = S.2.2.2.2 i
theorem ag_AR {a : aAS} {b : mAS} {S S' : tS} (h : tR S S') (h1 : tAg a S) (h2 : bAg b S') : AR a (shB b) := by
  obtain ⟨r1, r2, r3, r4, r5⟩ := h
  obtain ⟨a1, a2, a3, a4, a5⟩ := h1
  obtain ⟨b1, b2, b3, b4, b5⟩ := h2
  refine ⟨?_, ?_, fun i hi => ?_, fun i hi => ?_, fun i hi => ?_⟩
  · show b.1 0 = nI (a.2.2.2.2.2.2.2.1)
    rw [b1, ← r1, a1]
  · show b.1 1 = nI (a.2.2.2.2.2.2.2.2.1)
    rw [b2, ← r2, a2]
  · show nR (a.1 i) (b.2.1 (8 + i - 8))
    have hi : i < S.1 := by rw [a1]; exact hi
    rw [Nat.add_sub_cancel_left, a3 i hi, b3 i (by rw [← r1]; exact hi)]
    exact r3 i hi
  · show nR ((a.2.2.2.2.1) i) (b.2.2.1 (5 + i - 5))
    have hi : i < S.2.1 := by rw [a2]; exact hi
    rw [Nat.add_sub_cancel_left, a4 i hi, b4 i (by rw [← r2]; exact hi)]
    exact r4 i hi
  · show (a.2.2.2.1) i = (b.2.2.2.2.2.1) (8 + i - 8)
    have hi : i < S.1 := by rw [a1]; exact hi
    rw [Nat.add_sub_cancel_left, a5 i hi, b5 i (by rw [← r1]; exact hi)]
    exact r5 i hi
def aOf (S : tS) : aAS := (S.2.2.1, fun _ => 0, fun _ => 0, S.2.2.2.2, S.2.2.2.1, fun _ => 0, fun _ => 0, S.1, S.2.1, 0, 0, 0, 0, 0, 0, 0, 0, 0)
theorem tAg_of (S : tS) : tAg (aOf S) S := ⟨rfl, rfl, fun _ _ => rfl, fun _ _ => rfl, fun _ _ => rfl⟩
/-- what the class's years answer; the model's -/
def yC (f : Nat → Int32) (n : Nat) (S : tS) (v : Int32) : Prop := ∃ (f0 : Nat → Int32) (a : aAS) (t5 : Int32) (t6 : Int64) (ln : Nat → Int32) (l3 : Int32) (yy : Nat → Int32), (∀ k, k < n → f0 k = f k) ∧ aOK a ∧ tAg a S ∧ v = (F_years f0 n a t5 t6 ln l3 yy).1
def yM (f : Nat → Int32) (n : Nat) (S : tS) (v : Int32) : Prop := ∃ (g : Nat → Int32) (b : mAS) (w0 w1 : Int32) (w2 : Int64) (w3 : Int32) (cd : Nat) (li lw la lb : Nat → Int32) (res : Int32 × mRS × (Nat → Int32) × (Nat → Int32) × (Nat → Int32) × (Nat → Int32)), (∀ k, k < n → f k = g k) ∧ bAg b S ∧ F_m_ryl g n b 1001 (w0, 0, w1, w2, w3, cd) (upd li 5 0) lw la lb = some res ∧ v = res.1
theorem y_eq {f : Nat → Int32} {n : Nat} {S S' : tS} {v v' : Int32} (hn : n ≤ 1000) (h : tR S S') (h1 : yC f n S v) (h2 : yM f n S' v') : v' = v := by
  obtain ⟨f0, a, t5, t6, ln, l3, yy, e1, e2, e3, rfl⟩ := h1
  obtain ⟨g, b, w0, w1, w2, w3, cd, li, lw, la, lb, res, g1, g2, g3, rfl⟩ := h2
  obtain ⟨res', k1, k2⟩ := years_sim (f := f0) (g := g) (a := a) (b := b) (t5 := t5) (t6 := t6) (ln := ln) (l3 := l3) (yy := yy) (w0 := w0) (w1 := w1) (w2 := w2) (w3 := w3) (cd := cd) (li := li) (lw := lw) (la := la) (lb := lb) (fun k hk => (e1 k hk).trans (g1 k hk)) hn e2 (ag_AR h e3 g2)
  rw [g3] at k1
  have e := Option.some.inj k1
  subst e
  exact k2
theorem y_res {g : Nat → Int32} {n : Nat} {S S' : tS} {b : mAS} (hn : n ≤ 1000) (hS : S.1 ≤ 8 ∧ S.2.1 ≤ 5) (h : tR S S') (h2 : bAg b S') {w0 w1 w3 : Int32} {w2 : Int64} {cd : Nat} {li lw la lb : Nat → Int32} : ∃ res, F_m_ryl g n b 1001 (w0, 0, w1, w2, w3, cd) (upd li 5 0) lw la lb = some res := by
  obtain ⟨res, h1, -⟩ := years_sim (f := g) (g := g) (a := aOf S) (b := b) (t5 := 0) (t6 := 0) (ln := fun _ => 0) (l3 := 0) (yy := fun _ => 0) (w0 := w0) (w1 := w1) (w2 := w2) (w3 := w3) (cd := cd) (li := li) (lw := lw) (la := la) (lb := lb) (fun _ _ => rfl) hn ⟨hS.1, hS.2, Nat.zero_le _⟩ (ag_AR h (tAg_of S) h2)
  exact ⟨res, h1⟩

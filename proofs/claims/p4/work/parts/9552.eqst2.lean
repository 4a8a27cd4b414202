section ST2
variable {f g : Nat → Int32} {n : Nat}
theorem and1 (z : Int32) : z &&& 1 = 0 ∨ z &&& 1 = 1 := by
  have h := q_and_r (x := z) (y := 1) (by decide)
  rw [show (1 : Int32).toInt = 1 from by decide] at h
  rcases (show (z &&& 1).toInt = 0 ∨ (z &&& 1).toInt = 1 by omega) with e | e
  · exact .inl (Int32.toInt_inj.mp (e.trans (by decide)))
  · exact .inr (Int32.toInt_inj.mp (e.trans (by decide)))
theorem s_follows (hfg : ∀ k, k < n → f k = g k) (hn : n ≤ 1000) {rs : rRS} {rs' : mRS} {a : aAS} {b : mAS} (hA : aOK a) (hS : SR f g n rs a rs' b) (hlt : ts g n rs'.2.1 < n) :
    STO f g n rs' (F_readFollows f n rs a) (F_m_readsFollows g n rs' b) := by
  obtain ⟨h0, hp, hc, hR, hL⟩ := hS
  have hT : (a.2.2.2.2.2.2.2.1) ≤ 8 := hA.1
  have hpa : te f n rs.2.1 = te g n rs'.2.1 := by rw [hp, te_same hfg]
  unfold F_readFollows F_m_readsFollows
  rcases o_th hfg hn (rs := av f n rs) (rs' := mv g n rs') hA hR h0 hpa (cur_av hfg) with ⟨a1, a2, a3, a4, a5, a6, j1, a7, a8, a9⟩ | ⟨a1, a2, a3⟩
  · rw [if_neg a2, puf_0 a1]
    have hpb : te f n (F_thoughtHere f n (av f n rs) a).2.2.1 = te g n (F_m_needsThought1 g n (mv g n rs') b).2.2.1 := by rw [a3, te_same hfg]
    rcases o_th hfg hn (rs := av f n (F_thoughtHere f n (av f n rs) a).2) (rs' := mv g n (F_m_needsThought1 g n (mv g n rs') b).2) hA hR a1 hpb (cur_av hfg) with ⟨b1, b2, b3, b4, b5, b6, j2, b7, b8, b9⟩ | ⟨b1, b2, b3⟩
    · rw [if_neg b2, if_pos b1, a9, b9, a8, b8]
      unfold F_isTold F_isIn
      have e8 : (8 + nI j2 : Int32).toNatClampNeg = 8 + j2 := c_add (by omega) rfl
      rw [e8, nI_clamp (by omega), hR.2.2.2.2 j2 b7]
      rcases and1 ((b.2.2.2.2.2.1) (8 + j2) >>> (nI j1 &&& 31)) with e | e
      · rw [e, if_pos rfl, if_pos rfl, if_neg (show ¬ (0 : Int32) = 1 by decide), puf_0 b1]
        have hpc : te f n (F_thoughtHere f n (av f n (F_thoughtHere f n (av f n rs) a).2) a).2.2.1 = te g n (F_m_needsThought1 g n (mv g n (F_m_needsThought1 g n (mv g n rs') b).2) b).2.2.1 := by rw [b3, te_same hfg]
        rcases o_close hfg hn (rs := av f n (F_thoughtHere f n (av f n (F_thoughtHere f n (av f n rs) a).2) a).2) (rs' := mv g n (F_m_needsThought1 g n (mv g n (F_m_needsThought1 g n (mv g n rs') b).2) b).2) b1 hpc with ⟨d1, d2, d3, d4, d5, d6⟩ | ⟨d1, d2, d3⟩
        · rw [if_pos d1]
          refine .inl ⟨d1, d2, ⟨d1, d3, d4, ⟨hR.1, hR.2.1, hR.2.2.1, hR.2.2.2.1, fun i hi => ?_⟩, ?_⟩, ?_⟩
          · have hi : i < (a.2.2.2.2.2.2.2.1) := hi
            unfold F_addFollower
            rw [nI_clamp (by omega), hR.2.2.2.2 j2 b7]
            show (if i = j2 then _ else (a.2.2.2.1) i) = (if 8 + i = 8 + j2 then _ else (b.2.2.2.2.2.1) (8 + i))
            by_cases e : i = j2
            · rw [if_pos e, if_pos (by omega)]
            · rw [if_neg e, if_neg (by omega)]
              exact hR.2.2.2.2 i hi
          · have e : (F_m_closes g n (mv g n (F_m_needsThought1 g n (mv g n (F_m_needsThought1 g n (mv g n rs') b).2) b).2)).2.2.2.2.2.1 = rs'.2.2.2.2.1 := by
              have d7 := congrArg (fun x => x.2.2.1) d6
              have b7' := congrArg (fun x => x.2.1) b6
              have a7' := congrArg (fun x => x.2.1) a6
              exact d7.trans (b7'.trans a7')
            show LR (a.2.2.2.2.2.2.2.2.2.2.2.2.1) _ (b.2.2.2.2.2.2.2.1) (b.2.2.2.2.2.2.2.2.1)
            rw [e]
            exact hL
          · have h9 := ts_adv hlt
            have a5 : ts g n (te g n rs'.2.1) ≤ _ := a5
            have b5 : ts g n (te g n (F_m_needsThought1 g n (mv g n rs') b).2.2.1) ≤ _ := b5
            have d5 : ts g n (te g n (F_m_needsThought1 g n (mv g n (F_m_needsThought1 g n (mv g n rs') b).2) b).2.2.1) ≤ _ := d5
            have m1 : ts g n (F_m_needsThought1 g n (mv g n rs') b).2.2.1 ≤ ts g n (te g n (F_m_needsThought1 g n (mv g n rs') b).2.2.1) := ts_mono
            have m2 : ts g n (F_m_needsThought1 g n (mv g n (F_m_needsThought1 g n (mv g n rs') b).2) b).2.2.1 ≤ ts g n (te g n (F_m_needsThought1 g n (mv g n (F_m_needsThought1 g n (mv g n rs') b).2) b).2.2.1) := ts_mono
            show ts g n rs'.2.1 < ts g n (F_m_closes g n (mv g n (F_m_needsThought1 g n (mv g n (F_m_needsThought1 g n (mv g n rs') b).2) b).2)).2.2.1
            omega
        · rw [if_neg d1]
          exact .inr ⟨d1, d2, d3⟩
      · have hfl : ¬ (F_fail f n (F_thoughtHere f n (av f n (F_thoughtHere f n (av f n rs) a).2) a).2 3).1 = 0 := fl_ne hn (by decide) (by decide)
        rw [e, if_neg (show ¬ (1 : Int32) = 0 by decide), if_neg (show ¬ (1 : Int32) = 0 by decide), if_pos rfl, puf_f hfl, ps_f hfl, if_neg hfl]
        rcases o_fail (r0 := rs') (K := True) hfg hn (k := 3) b1 b3 (by decide) (by decide) with ⟨x1, _⟩ | h
        · exact absurd x1 hfl
        · exact .inr h
    · rw [if_pos b2, if_neg b1, puf_f b1, ps_f b1, if_neg b1]
      exact .inr ⟨b1, rfl, b3⟩
  · rw [if_pos a2, puf_f a1, th_f a1, if_neg a1, puf_f a1, ps_f a1, if_neg a1]
    exact .inr ⟨a1, rfl, a3⟩
theorem s_tenant (hfg : ∀ k, k < n → f k = g k) (hn : n ≤ 1000) {rs : rRS} {rs' : mRS} {a : aAS} {b : mAS} (hA : aOK a) (hS : SR f g n rs a rs' b) (hlt : ts g n rs'.2.1 < n) :
    STO f g n rs' (F_readTenant f n rs a) (F_m_readsTenant g n rs' b) := by
  obtain ⟨h0, hp, hc, hR, hL⟩ := hS
  have hT : (a.2.2.2.2.2.2.2.2.1) ≤ 5 := hA.2.1
  unfold F_readTenant F_m_readsTenant
  by_cases h5 : (a.2.2.2.2.2.2.2.2.1) < 5
  · have c5 : nI (a.2.2.2.2.2.2.2.2.1) < 5 := nI_lt h5 (by decide)
    have m5 : ¬ 5 + b.1 6 = 10 := by
      rw [hR.2.1, show (5 : Int32) = nI 5 from rfl, nI_add]
      intro e
      have := (nI_eq (by omega) (by decide)).mp (e.trans (show (10 : Int32) = nI 10 from rfl))
      omega
    rw [if_pos c5, if_neg m5]
    have hpa : te f n rs.2.1 = te g n rs'.2.1 := by rw [hp, te_same hfg]
    rcases o_new hfg hn (rs := av f n rs) (rs' := mv g n rs') hA hR h0 hpa (cur_av hfg) with ⟨a1, a2, a3, a4, a5, a6, a7⟩ | ⟨a1, a2, a3⟩
    · rw [if_neg a2]
      have ei : (5 + b.1 6).toNatClampNeg = 5 + (a.2.2.2.2.2.2.2.2.1) := by rw [hR.2.1]; exact c_add (by omega) rfl
      have hpb : te f n (F_newName f n (av f n rs) a).2.2.1 = te g n (F_m_needsNew g n (mv g n rs') b).2.2.1 := by rw [a3, te_same hfg]
      have key : ∀ (kd : Int32) (ki : Nat → Int32), STO f g n rs' (if (F_passSign f n (F_passUF f n (F_newName f n (av f n rs) a).2) 59).1 = 0 then (F_passSign f n (F_passUF f n (F_newName f n (av f n rs) a).2) 59, F_addTenant a (F_newName f n (av f n rs) a).1 kd) else (F_passSign f n (F_passUF f n (F_newName f n (av f n rs) a).2) 59, a)) ((F_m_closes g n (mv g n (F_m_needsNew g n (mv g n rs') b).2)).1, (F_m_closes g n (mv g n (F_m_needsNew g n (mv g n rs') b).2)).2, upd b.1 6 (b.1 6 + 1), b.2.1, vp_updL b.2.2.1 (5 + b.1 6).toNatClampNeg (mv g n (F_m_needsNew g n (mv g n rs') b).2).2.2.2.1, b.2.2.2.1, b.2.2.2.2.1, b.2.2.2.2.2.1, ki, b.2.2.2.2.2.2.2) := by
        intro kd ki
        rw [puf_0 a1]
        rcases o_close hfg hn (rs := av f n (F_newName f n (av f n rs) a).2) (rs' := mv g n (F_m_needsNew g n (mv g n rs') b).2) a1 hpb with ⟨d1, d2, d3, d4, d5, d6⟩ | ⟨d1, d2, d3⟩
        · rw [if_pos d1]
          refine .inl ⟨d1, d2, ⟨d1, d3, d4, ?_, ?_⟩, ?_⟩
          · unfold F_addTenant
            rw [if_neg (show ¬ 5 ≤ nI (a.2.2.2.2.2.2.2.2.1) from Int32.not_le.mpr c5), nI_clamp (by omega), ei]
            refine ⟨hR.1, ?_, hR.2.2.1, fun i hi => ?_, hR.2.2.2.2⟩
            · show b.1 6 + 1 = nI ((a.2.2.2.2.2.2.2.2.1) + 1)
              rw [hR.2.1]; exact nI_1 _
            · have hi : i < (a.2.2.2.2.2.2.2.2.1) + 1 := hi
              show nR (if i = (a.2.2.2.2.2.2.2.2.1) then _ else (a.2.2.2.2.1) i) (if 5 + i = 5 + (a.2.2.2.2.2.2.2.2.1) then _ else b.2.2.1 (5 + i))
              by_cases e : i = (a.2.2.2.2.2.2.2.2.1)
              · rw [if_pos e, if_pos (by omega)]
                exact a7
              · rw [if_neg e, if_neg (by omega)]
                exact hR.2.2.2.1 i (by omega)
          · have e : (F_m_closes g n (mv g n (F_m_needsNew g n (mv g n rs') b).2)).2.2.2.2.2.1 = rs'.2.2.2.2.1 := by
              have d7 := congrArg (fun x => x.2.2.1) d6
              have a7' := congrArg (fun x => x.1) a6
              exact d7.trans a7'
            unfold F_addTenant
            rw [if_neg (show ¬ 5 ≤ nI (a.2.2.2.2.2.2.2.2.1) from Int32.not_le.mpr c5)]
            show LR (a.2.2.2.2.2.2.2.2.2.2.2.2.1) _ (b.2.2.2.2.2.2.2.1) (b.2.2.2.2.2.2.2.2.1)
            rw [e]
            exact hL
          · have h9 := ts_adv hlt
            have a5 : ts g n (te g n rs'.2.1) ≤ _ := a5
            have d5 : ts g n (te g n (F_m_needsNew g n (mv g n rs') b).2.2.1) ≤ _ := d5
            have m1 : ts g n (F_m_needsNew g n (mv g n rs') b).2.2.1 ≤ ts g n (te g n (F_m_needsNew g n (mv g n rs') b).2.2.1) := ts_mono
            show ts g n rs'.2.1 < ts g n (F_m_closes g n (mv g n (F_m_needsNew g n (mv g n rs') b).2)).2.2.1
            omega
        · rw [if_neg d1]
          exact .inr ⟨d1, d2, d3⟩
      have w15 := w_eq (rs := (F_m_needsNew g n (mv g n rs') b).2) hfg (i := 15) (by decide) (by decide)
      rw [show w27.getD 15 0 = 8740238 from by decide, ← a3] at w15
      have w16 := w_eq (rs := (F_m_needsNew g n (mv g n rs') b).2) hfg (i := 16) (by decide) (by decide)
      rw [show w27.getD 16 0 = 277680074 from by decide, ← a3] at w16
      have w17 := w_eq (rs := (F_m_needsNew g n (mv g n rs') b).2) hfg (i := 17) (by decide) (by decide)
      rw [show w27.getD 17 0 = 49538619 from by decide, ← a3] at w17
      have w18 := w_eq (rs := (F_m_needsNew g n (mv g n rs') b).2) hfg (i := 18) (by decide) (by decide)
      rw [show w27.getD 18 0 = 269726508 from by decide, ← a3] at w18
      by_cases k15 : tw f n (F_newName f n (av f n rs) a).2.2.1 = 15
      · rw [if_pos k15] at w15
        rw [w15, if_neg (show ¬ (1 : Int32) = 0 by decide)]
        rw [if_neg (show ¬ F_isKind (tw f n (F_newName f n (av f n rs) a).2.2.1) = 0 by rw [k15]; decide)]
        exact key _ _
      · rw [if_neg k15] at w15
        by_cases k16 : tw f n (F_newName f n (av f n rs) a).2.2.1 = 16
        · rw [if_pos k16] at w16
          rw [w15, if_pos rfl, w16, if_neg (show ¬ (1 : Int32) = 0 by decide)]
          rw [if_neg (show ¬ F_isKind (tw f n (F_newName f n (av f n rs) a).2.2.1) = 0 by rw [k16]; decide)]
          exact key _ _
        · rw [if_neg k16] at w16
          by_cases k17 : tw f n (F_newName f n (av f n rs) a).2.2.1 = 17
          · rw [if_pos k17] at w17
            rw [w15, if_pos rfl, w16, if_pos rfl, w17, if_neg (show ¬ (1 : Int32) = 0 by decide)]
            rw [if_neg (show ¬ F_isKind (tw f n (F_newName f n (av f n rs) a).2.2.1) = 0 by rw [k17]; decide)]
            exact key _ _
          · rw [if_neg k17] at w17
            by_cases k18 : tw f n (F_newName f n (av f n rs) a).2.2.1 = 18
            · rw [if_pos k18] at w18
              rw [w15, if_pos rfl, w16, if_pos rfl, w17, if_pos rfl, w18, if_neg (show ¬ (1 : Int32) = 0 by decide)]
              rw [if_neg (show ¬ F_isKind (tw f n (F_newName f n (av f n rs) a).2.2.1) = 0 by rw [k18]; decide)]
              exact key _ _
            · rw [if_neg k18] at w18
              rw [w15, if_pos rfl, w16, if_pos rfl, w17, if_pos rfl, w18, if_pos rfl]
              have hfl : ¬ (F_fail f n (F_newName f n (av f n rs) a).2 1).1 = 0 := fl_ne hn (by decide) (by decide)
              rw [if_pos (show F_isKind (tw f n (F_newName f n (av f n rs) a).2.2.1) = 0 by unfold F_isKind; rw [if_neg k15, if_neg k16, if_neg k17, if_neg k18]), puf_f hfl, ps_f hfl, if_neg hfl]
              rcases o_fail (r0 := rs') (K := True) hfg hn (k := 1) a1 a3 (by decide) (by decide) with ⟨x1, _⟩ | h
              · exact absurd x1 hfl
              · exact .inr h
    · rw [if_pos a2]
      by_cases hk : F_isKind (tw f n (F_newName f n (av f n rs) a).2.2.1) = 0
      · rw [if_pos hk, fail_f a1, puf_f a1, ps_f a1, if_neg a1]
        exact .inr ⟨a1, rfl, a3⟩
      · rw [if_neg hk, puf_f a1, ps_f a1, if_neg a1]
        exact .inr ⟨a1, rfl, a3⟩
  · have e5 : (a.2.2.2.2.2.2.2.2.1) = 5 := by omega
    have c5 : ¬ nI (a.2.2.2.2.2.2.2.2.1) < 5 := by rw [e5]; decide
    have m5 : 5 + b.1 6 = 10 := by rw [hR.2.1, e5]; decide
    rw [if_neg c5, if_pos m5]
    rcases o_fail (r0 := rs') (K := True) hfg hn (k := 5) h0 hp (by decide) (by decide) with ⟨a1, _⟩ | h
    · exact absurd a1 (fl_ne hn (by decide) (by decide))
    · exact .inr h
theorem bt_7 : ∀ k : Nat, k < 32 → ((nI k &&& 1 = 0 ↔ ¬ (nI (k % 8 * 4) >>> (2 &&& 31)) &&& 1 = 1) ∧ nI k ||| 1 = nI (k ||| 1) ∧ (k ||| 1) < 32 ∧ nI (k % 8 * 4) ||| 4 = nI ((k ||| 1) % 8 * 4) ∧ (k ||| 1) / 8 % 2 = k / 8 % 2 ∧ (k ||| 1) / 16 % 2 = k / 16 % 2) := by decide +kernel
theorem s_one2 (hfg : ∀ k, k < n → f k = g k) (hn : n ≤ 1000) {rs : rRS} {rs' : mRS} {a : aAS} {b : mAS} (hS : SR f g n rs a rs' b) (hlt : ts g n rs'.2.1 < n) :
    STO f g n rs' (F_readSetting f n rs a 7) (F_m_readsOne2 g n rs' b 2 12) := by
  obtain ⟨h0, hp, hc, hR, k, hk, ho, ht, hg1, hg2⟩ := hS
  obtain ⟨t1, t2, t3, t4, t5, t6⟩ := bt_7 k hk
  have hv : kWv.getD 7 0 = 1 := by decide
  unfold F_readSetting F_m_readsOne2 F_passOnce
  rw [if_pos rfl, hv, ho, ht]
  by_cases hb : nI k &&& 1 = 0
  · rw [if_pos hb, if_neg (t1.mp hb), puf_0 h0]
    have hpa : te f n rs.2.1 = te g n rs'.2.1 := by rw [hp, te_same hfg]
    rcases o_num hfg hn (lo := 2) (hi := 12) (rs := av f n rs) (rs' := mv g n (rs'.1, rs'.2.1, rs'.2.2.1, rs'.2.2.2.1, nI (k % 8 * 4) ||| 4, rs'.2.2.2.2.2)) h0 hpa (cur_av hfg) with ⟨a1, a2, a3, a4, a5, a6⟩ | ⟨a1, a2, a3⟩
    · rw [if_neg a2]
      rcases o_close hfg hn a1 a3 with ⟨d1, d2, d3, d4, d5, d6⟩ | ⟨d1, d2, d3⟩
      · refine .inl ⟨d1, d2, ⟨d1, d3, d4, ⟨hR.1, hR.2.1, hR.2.2⟩, k ||| 1, t3, t2, ?_, ?_, ?_⟩, ?_⟩
        · have d7 := congrArg (fun x => x.2.2.1) d6
          have a7 := congrArg (fun x => x.2.1) a6
          exact (d7.trans a7).trans t4
        · rw [t5]; exact hg1
        · rw [t6]; exact hg2
        · have h9 := ts_adv hlt
          have a5 : ts g n (te g n rs'.2.1) ≤ _ := a5
          exact Nat.lt_of_lt_of_le h9 (Nat.le_trans a5 d5)
      · exact .inr ⟨d1, d2, d3⟩
    · rw [if_pos a2, ps_f a1]
      exact .inr ⟨a1, rfl, a3⟩
  · have hfl : ¬ (F_fail f n rs 3).1 = 0 := fl_ne hn (by decide) (by decide)
    have hb' : (nI (k % 8 * 4) >>> (2 &&& 31)) &&& 1 = 1 := Decidable.not_not.mp (fun h => hb (t1.mpr h))
    rw [if_neg hb, if_pos hb', puf_f hfl, nw_f hfl, ps_f hfl]
    rcases o_fail (r0 := rs') (K := True) hfg hn (k := 3) h0 hp (by decide) (by decide) with ⟨x1, _⟩ | h
    · exact absurd x1 hfl
    · exact .inr h
theorem bt_8 : ∀ k : Nat, k < 32 → ((nI k &&& 2 = 0 ↔ ¬ (nI (k % 8 * 4) >>> (3 &&& 31)) &&& 1 = 1) ∧ nI k ||| 2 = nI (k ||| 2) ∧ (k ||| 2) < 32 ∧ nI (k % 8 * 4) ||| 8 = nI ((k ||| 2) % 8 * 4) ∧ (k ||| 2) / 8 % 2 = k / 8 % 2 ∧ (k ||| 2) / 16 % 2 = k / 16 % 2) := by decide +kernel
theorem s_one3 (hfg : ∀ k, k < n → f k = g k) (hn : n ≤ 1000) {rs : rRS} {rs' : mRS} {a : aAS} {b : mAS} (hS : SR f g n rs a rs' b) (hlt : ts g n rs'.2.1 < n) :
    STO f g n rs' (F_readSetting f n rs a 8) (F_m_readsOne3 g n rs' b 0 20) := by
  obtain ⟨h0, hp, hc, hR, k, hk, ho, ht, hg1, hg2⟩ := hS
  obtain ⟨t1, t2, t3, t4, t5, t6⟩ := bt_8 k hk
  have hv : kWv.getD 8 0 = 2 := by decide
  unfold F_readSetting F_m_readsOne3 F_passOnce
  rw [if_neg (show ¬ (8 : Nat) = 7 by decide), if_pos rfl, hv, ho, ht]
  by_cases hb : nI k &&& 2 = 0
  · rw [if_pos hb, if_neg (t1.mp hb), puf_0 h0]
    have hpa : te f n rs.2.1 = te g n rs'.2.1 := by rw [hp, te_same hfg]
    rcases o_num hfg hn (lo := 0) (hi := 20) (rs := av f n rs) (rs' := mv g n (rs'.1, rs'.2.1, rs'.2.2.1, rs'.2.2.2.1, nI (k % 8 * 4) ||| 8, rs'.2.2.2.2.2)) h0 hpa (cur_av hfg) with ⟨a1, a2, a3, a4, a5, a6⟩ | ⟨a1, a2, a3⟩
    · rw [if_neg a2]
      rcases o_close hfg hn a1 a3 with ⟨d1, d2, d3, d4, d5, d6⟩ | ⟨d1, d2, d3⟩
      · refine .inl ⟨d1, d2, ⟨d1, d3, d4, ⟨hR.1, hR.2.1, hR.2.2⟩, k ||| 2, t3, t2, ?_, ?_, ?_⟩, ?_⟩
        · have d7 := congrArg (fun x => x.2.2.1) d6
          have a7 := congrArg (fun x => x.2.1) a6
          exact (d7.trans a7).trans t4
        · rw [t5]; exact hg1
        · rw [t6]; exact hg2
        · have h9 := ts_adv hlt
          have a5 : ts g n (te g n rs'.2.1) ≤ _ := a5
          exact Nat.lt_of_lt_of_le h9 (Nat.le_trans a5 d5)
      · exact .inr ⟨d1, d2, d3⟩
    · rw [if_pos a2, ps_f a1]
      exact .inr ⟨a1, rfl, a3⟩
  · have hfl : ¬ (F_fail f n rs 3).1 = 0 := fl_ne hn (by decide) (by decide)
    have hb' : (nI (k % 8 * 4) >>> (3 &&& 31)) &&& 1 = 1 := Decidable.not_not.mp (fun h => hb (t1.mpr h))
    rw [if_neg hb, if_pos hb', puf_f hfl, nw_f hfl, ps_f hfl]
    rcases o_fail (r0 := rs') (K := True) hfg hn (k := 3) h0 hp (by decide) (by decide) with ⟨x1, _⟩ | h
    · exact absurd x1 hfl
    · exact .inr h
theorem bt_9 : ∀ k : Nat, k < 32 → ((nI k &&& 4 = 0 ↔ ¬ (nI (k % 8 * 4) >>> (4 &&& 31)) &&& 1 = 1) ∧ nI k ||| 4 = nI (k ||| 4) ∧ (k ||| 4) < 32 ∧ nI (k % 8 * 4) ||| 16 = nI ((k ||| 4) % 8 * 4) ∧ (k ||| 4) / 8 % 2 = k / 8 % 2 ∧ (k ||| 4) / 16 % 2 = k / 16 % 2) := by decide +kernel
theorem s_one4 (hfg : ∀ k, k < n → f k = g k) (hn : n ≤ 1000) {rs : rRS} {rs' : mRS} {a : aAS} {b : mAS} (hS : SR f g n rs a rs' b) (hlt : ts g n rs'.2.1 < n) :
    STO f g n rs' (F_readSetting f n rs a 9) (F_m_readsOne4 g n rs' b 1 6) := by
  obtain ⟨h0, hp, hc, hR, k, hk, ho, ht, hg1, hg2⟩ := hS
  obtain ⟨t1, t2, t3, t4, t5, t6⟩ := bt_9 k hk
  have hv : kWv.getD 9 0 = 4 := by decide
  unfold F_readSetting F_m_readsOne4 F_passOnce
  rw [if_neg (show ¬ (9 : Nat) = 7 by decide), if_neg (show ¬ (9 : Nat) = 8 by decide), hv, ho, ht]
  by_cases hb : nI k &&& 4 = 0
  · rw [if_pos hb, if_neg (t1.mp hb), puf_0 h0]
    have hpa : te f n rs.2.1 = te g n rs'.2.1 := by rw [hp, te_same hfg]
    rcases o_num hfg hn (lo := 1) (hi := 6) (rs := av f n rs) (rs' := mv g n (rs'.1, rs'.2.1, rs'.2.2.1, rs'.2.2.2.1, nI (k % 8 * 4) ||| 16, rs'.2.2.2.2.2)) h0 hpa (cur_av hfg) with ⟨a1, a2, a3, a4, a5, a6⟩ | ⟨a1, a2, a3⟩
    · rw [if_neg a2]
      rcases o_close hfg hn a1 a3 with ⟨d1, d2, d3, d4, d5, d6⟩ | ⟨d1, d2, d3⟩
      · refine .inl ⟨d1, d2, ⟨d1, d3, d4, ⟨hR.1, hR.2.1, hR.2.2⟩, k ||| 4, t3, t2, ?_, ?_, ?_⟩, ?_⟩
        · have d7 := congrArg (fun x => x.2.2.1) d6
          have a7 := congrArg (fun x => x.2.1) a6
          exact (d7.trans a7).trans t4
        · rw [t5]; exact hg1
        · rw [t6]; exact hg2
        · have h9 := ts_adv hlt
          have a5 : ts g n (te g n rs'.2.1) ≤ _ := a5
          exact Nat.lt_of_lt_of_le h9 (Nat.le_trans a5 d5)
      · exact .inr ⟨d1, d2, d3⟩
    · rw [if_pos a2, ps_f a1]
      exact .inr ⟨a1, rfl, a3⟩
  · have hfl : ¬ (F_fail f n rs 3).1 = 0 := fl_ne hn (by decide) (by decide)
    have hb' : (nI (k % 8 * 4) >>> (4 &&& 31)) &&& 1 = 1 := Decidable.not_not.mp (fun h => hb (t1.mpr h))
    rw [if_neg hb, if_pos hb', puf_f hfl, nw_f hfl, ps_f hfl]
    rcases o_fail (r0 := rs') (K := True) hfg hn (k := 3) h0 hp (by decide) (by decide) with ⟨x1, _⟩ | h
    · exact absurd x1 hfl
    · exact .inr h
end ST2

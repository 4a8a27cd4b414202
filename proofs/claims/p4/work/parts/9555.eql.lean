section LAWS
variable {f g : Nat → Int32} {n : Nat}
/-- an E and the sign behind it -/
theorem o_E (hfg : ∀ k, k < n → f k = g k) (hn : n ≤ 1000) {rs : rRS} {a : aAS} {r : mRS} {b : mAS} (h0 : rs.1 = 0) (hp : rs.2.1 = r.2.1) (hc : cur f g n rs) :
    ((F_passSign f n (eE f n (eP f n 5) rs a).1 59).1 = 0 ∧ ¬ (F_m_reads g n r b).1 = 0 ∧ AFr a (eE f n (eP f n 5) rs a).2 ∧ cur f g n (F_passSign f n (eE f n (eP f n 5) rs a).1 59) ∧ (F_passSign f n (eE f n (eP f n 5) rs a).1 59).2.1 = (F_m_reads g n r b).2.1.2.1 ∧ EB b (F_m_reads g n r b).2.2 ∧ (F_m_reads g n r b).2.1.2.2.2.2.1 = r.2.2.2.2.1 ∧ r.2.2.2.2.2 < (F_m_reads g n r b).2.1.2.2.2.2.2 ∧ ts g n r.2.1 < ts g n (F_m_reads g n r b).2.1.2.1) ∨
    (¬ (F_passSign f n (eE f n (eP f n 5) rs a).1 59).1 = 0 ∧ (F_m_reads g n r b).1 = 0 ∧ (F_m_reads g n r b).2.1.1 = (F_passSign f n (eE f n (eP f n 5) rs a).1 59).1) := by
  have hR : F_m_reads g n r b = F_m_rdl g n 1001 0 1 r ((b.1), (b.2.1), (b.2.2.1), (b.2.2.2.1), (b.2.2.2.2.1), (b.2.2.2.2.2.1), (b.2.2.2.2.2.2.1), (b.2.2.2.2.2.2.2.1), (b.2.2.2.2.2.2.2.2.1), (b.2.2.2.2.2.2.2.2.2.1), (b.2.2.2.2.2.2.2.2.2.2.1), upd (b.2.2.2.2.2.2.2.2.2.2.2) 0 0) := rfl
  have hE := E_of (d := 0) hfg hn (by decide) (P_sim hfg hn 5 0 rfl) rs a r ((b.1), (b.2.1), (b.2.2.1), (b.2.2.2.1), (b.2.2.2.2.1), (b.2.2.2.2.2.1), (b.2.2.2.2.2.2.1), (b.2.2.2.2.2.2.2.1), (b.2.2.2.2.2.2.2.2.1), (b.2.2.2.2.2.2.2.2.2.1), (b.2.2.2.2.2.2.2.2.2.2.1), upd (b.2.2.2.2.2.2.2.2.2.2.2) 0 0) 1001 h0 hp hc (by omega) rfl rfl
  rw [← hR] at hE
  rcases hE with ⟨i1, i2, i3, k1, s, c, i4, i5, i6, i7, i8, ⟨⟨n42, n43, n45⟩, n60, n61⟩, n20, n21⟩ | ⟨i1, i2, i3⟩
  · obtain ⟨k1, rfl⟩ : ∃ j, k1 = j + 1 := ⟨k1 - 1, by omega⟩
    unfold F_passSign
    rw [i6]
    by_cases t59 : tk f n s.2.1 = 59
    · have ne : ∀ {c' : Int32}, ¬ (59 : Int32) = c' → ¬ tk f n s.2.1 = c' := fun h2 h3 => h2 (t59.symm.trans h3)
      have hfin : F_m_rdl g n (k1 + 1) 0 0 s c = (1, mv g n s, c) := rd_fin rfl (sg0 hfg hn (by decide) n43) (sg0 hfg hn (by decide) n45) (sg0 hfg hn (by decide) n42) (sg0 hfg hn (by decide) (ne (by decide))) (sg0 hfg hn (by decide) (ne (by decide))) (wd0 hfg (i := 20) (by decide) (by decide) (by decide) n20) (wd0 hfg (i := 21) (by decide) (by decide) (by decide) n21) (sg0 hfg hn (by decide) (ne (by decide))) rfl (sg1 hfg hn (by decide) t59)
      rw [if_pos t59, if_pos i1, i4, hfin]
      refine .inl ⟨i1, nz1, i2, cur_av hfg, ?_, EB_trans (by exact ⟨rfl, rfl, rfl, rfl, rfl, rfl, rfl, rfl, rfl⟩) i7.2.2.2.1, i7.1.2.2.2, i8.1, Nat.lt_of_lt_of_le i8.2 ts_mono⟩
      show te f n _ = te g n s.2.1
      rw [i6, te_same hfg]
    · have hbad : F_m_rdl g n (k1 + 1) 0 0 s c = (0, F_m_fails g n s 1, c) := rd_bad hfg hn (by decide) n42 n43 n45 n60 n61 n20 n21 (fun _ => rfl) (fun h => absurd h t59)
      rw [if_neg t59, i4, hbad]
      refine .inr ⟨fl_ne hn (by decide) (by decide), rfl, ?_⟩
      show 1 + 16 * nI (ts g n s.2.1) = _
      rw [fail_0 i1, i6, ts_same hfg]
  · rw [ps_f i1]
    exact .inr ⟨i1, i2, i3⟩
theorem AR_fr {a a' : aAS} {b b' : mAS} (h : AR a b) (h1 : AFr a a') (h2 : EB b b') : AR a' b' := by
  obtain ⟨a0, a1, a2, a3, a4, a5, a7, a8, a9, a10, a11, a12, a14, a15, a16, a17⟩ := h1
  obtain ⟨e0, e1, e2, e3, e4, e5, e6, e7, e8⟩ := h2
  unfold AR at h ⊢
  rw [a7, a8, a0, a4, a3, e0, e1, e2, e5]
  exact h
theorem AR_of {a a' : aAS} {b b' : mAS} (h : AR a b) (g7 : (a'.2.2.2.2.2.2.2.1) = (a.2.2.2.2.2.2.2.1)) (g8 : (a'.2.2.2.2.2.2.2.2.1) = (a.2.2.2.2.2.2.2.2.1)) (g0 : (a'.1) = (a.1)) (g4 : (a'.2.2.2.2.1) = (a.2.2.2.2.1)) (g3 : (a'.2.2.2.1) = (a.2.2.2.1)) (h0 : (b'.1) = (b.1)) (h1 : (b'.2.1) = (b.2.1)) (h2 : (b'.2.2.1) = (b.2.2.1)) (h5 : (b'.2.2.2.2.2.1) = (b.2.2.2.2.2.1)) : AR a' b' := by
  unfold AR at h ⊢
  rw [g7, g8, g0, g4, g3, h0, h1, h2, h5]
  exact h
theorem AFr_12 {a c : aAS} (h : AFr a c) : (c.2.2.2.2.2.2.2.2.2.2.2.2.1) = (a.2.2.2.2.2.2.2.2.2.2.2.2.1) := by
  obtain ⟨a0, a1, a2, a3, a4, a5, a7, a8, a9, a10, a11, a12, a14, a15, a16, a17⟩ := h
  exact a12
theorem bl_10 : ∀ k : Nat, k < 32 → ((nI k &&& 8 = 0 ↔ k / 8 % 2 = 0) ∧ nI k ||| 8 = nI (k ||| 8) ∧ (k ||| 8) < 32 ∧ (k ||| 8) % 8 = k % 8 ∧ (k ||| 8) / 8 % 2 = 1 ∧ (k ||| 8) / 16 % 2 = k / 16 % 2) := by decide +kernel
theorem s_law0 (hfg : ∀ k, k < n → f k = g k) (hn : n ≤ 1000) {rs : rRS} {rs' : mRS} {a : aAS} {b : mAS} (hS : SR f g n rs a rs' b) (hmC : mC g n rs') (hlt : ts g n rs'.2.1 < n) :
    STO f g n rs' (F_readLaw f n rs a 10) (F_m_readsLaw0 g n rs' b) := by
  obtain ⟨h0, hp, hc, hR, k, hk, ho, ht, hg1, hg2⟩ := hS
  obtain ⟨t1, t2, t3, t4, t5, t6⟩ := bl_10 k hk
  have hv : kWv.getD 10 0 = 8 := by decide
  have hpa : te f n rs.2.1 = te g n rs'.2.1 := by rw [hp, te_same hfg]
  unfold F_readLaw F_m_readsLaw0
  rw [if_pos rfl]
  by_cases hb : (a.2.2.2.2.2.2.2.2.2.2.2.2.1) &&& kWv.getD 10 0 = 0
  · have hk0 : k / 8 % 2 = 0 := t1.mp (by rw [hv, ho] at hb; exact hb)
    have hP : F_passOnce f n rs a 10 = (F_passUF f n rs, ((a.1), (a.2.1), (a.2.2.1), (a.2.2.2.1), (a.2.2.2.2.1), (a.2.2.2.2.2.1), (a.2.2.2.2.2.2.1), (a.2.2.2.2.2.2.2.1), (a.2.2.2.2.2.2.2.2.1), (a.2.2.2.2.2.2.2.2.2.1), (a.2.2.2.2.2.2.2.2.2.2.1), (a.2.2.2.2.2.2.2.2.2.2.2.1), (a.2.2.2.2.2.2.2.2.2.2.2.2.1) ||| kWv.getD 10 0, (a.2.2.2.2.2.2.2.2.2.2.2.2.2.1), (a.2.2.2.2.2.2.2.2.2.2.2.2.2.2.1), (a.2.2.2.2.2.2.2.2.2.2.2.2.2.2.2.1), (a.2.2.2.2.2.2.2.2.2.2.2.2.2.2.2.2.1), (a.2.2.2.2.2.2.2.2.2.2.2.2.2.2.2.2.2))) := by
      unfold F_passOnce
      rw [if_pos hb]
    rw [if_pos (hg1.mp hk0)]
    generalize hBB : ((b.1), (b.2.1), (b.2.2.1), (b.2.2.2.1), (b.2.2.2.2.1), (b.2.2.2.2.2.1), (b.2.2.2.2.2.2.1), upd (b.2.2.2.2.2.2.2.1) 2 (nI (mv g n rs').2.2.2.2.2), (b.2.2.2.2.2.2.2.2.1), (b.2.2.2.2.2.2.2.2.2.1), (b.2.2.2.2.2.2.2.2.2.2.1), (b.2.2.2.2.2.2.2.2.2.2.2)) = BB
    rw [hP]
    dsimp only
    rw [puf_0 h0]
    generalize hAA : ((a.1), (a.2.1), (a.2.2.1), (a.2.2.2.1), (a.2.2.2.2.1), (a.2.2.2.2.2.1), (a.2.2.2.2.2.2.1), (a.2.2.2.2.2.2.2.1), (a.2.2.2.2.2.2.2.2.1), (a.2.2.2.2.2.2.2.2.2.1), (a.2.2.2.2.2.2.2.2.2.2.1), (a.2.2.2.2.2.2.2.2.2.2.2.1), (a.2.2.2.2.2.2.2.2.2.2.2.2.1) ||| kWv.getD 10 0, (a.2.2.2.2.2.2.2.2.2.2.2.2.2.1), (a.2.2.2.2.2.2.2.2.2.2.2.2.2.2.1), (a.2.2.2.2.2.2.2.2.2.2.2.2.2.2.2.1), (a.2.2.2.2.2.2.2.2.2.2.2.2.2.2.2.2.1), (a.2.2.2.2.2.2.2.2.2.2.2.2.2.2.2.2.2)) = AA
    have hE := o_E hfg hn (rs := av f n rs) (a := AA) (r := mv g n rs') (b := BB) h0 hpa (cur_av hfg)
    rcases hE with ⟨i1, i2, i3, i4, i5, i6, i7, i8, i9⟩ | ⟨i1, i2, i3⟩
    · rw [if_neg i2]
      have hmC2 : mC g n (F_m_reads g n (mv g n rs') BB).2.1 := mC_reads (mC_mv hmC)
      have hc9 : (F_m_reads g n (mv g n rs') BB).2.1.2.2.2.2.2 ≤ 2000 := by
        have h9 : ts g n (F_m_reads g n (mv g n rs') BB).2.1.2.1 ≤ n := ts_le
        unfold mC at hmC2
        omega
      refine .inl ⟨i1, nz1, ⟨i1, i5, i4, ?_, k ||| 8, t3, ?_, ?_, ?_, ?_⟩, Nat.lt_of_le_of_lt ts_mono i9⟩
      · have hA2 : AR (eE f n (eP f n 5) (av f n rs) AA).2 (F_m_reads g n (mv g n rs') BB).2.2 := AR_fr (AR_of hR (by rw [← hAA]) (by rw [← hAA]) (by rw [← hAA]) (by rw [← hAA]) (by rw [← hAA]) (by rw [← hBB]) (by rw [← hBB]) (by rw [← hBB]) (by rw [← hBB])) i3 i6
        exact AR_of hA2 rfl rfl rfl rfl rfl rfl rfl rfl rfl
      · show ((eE f n (eP f n 5) (av f n rs) AA).2.2.2.2.2.2.2.2.2.2.2.2.2.1) = _
        rw [AFr_12 i3, ← hAA]
        show (a.2.2.2.2.2.2.2.2.2.2.2.2.1) ||| kWv.getD 10 0 = _
        rw [ho, hv, t2]
      · show (F_m_reads g n (mv g n rs') BB).2.1.2.2.2.2.1 = _
        rw [i7]
        show rs'.2.2.2.2.1 = _
        rw [ht, t4]
      · show (k ||| 8) / 8 % 2 = 0 ↔ (if 2 = 2 then nI (F_m_reads g n (mv g n rs') BB).2.1.2.2.2.2.2 else ((F_m_reads g n (mv g n rs') BB).2.2.2.2.2.2.2.2.2.2.1) 2) ≤ ((F_m_reads g n (mv g n rs') BB).2.2.2.2.2.2.2.2.2.1) 2
        have e9 : ((F_m_reads g n (mv g n rs') BB).2.2.2.2.2.2.2.2.2.1) 2 = nI (mv g n rs').2.2.2.2.2 := by rw [i6.2.2.2.2.2.2.2.1, ← hBB]; show (if 2 = 2 then nI (mv g n rs').2.2.2.2.2 else (b.2.2.2.2.2.2.2.1) 2) = _; exact if_pos rfl
        rw [t5, if_pos rfl, e9]
        have i8 : (mv g n rs').2.2.2.2.2 < (F_m_reads g n (mv g n rs') BB).2.1.2.2.2.2.2 := i8
        exact ⟨fun h => absurd h (by decide), fun h => absurd h (nI_ge i8 (by omega))⟩
      · show (k ||| 8) / 16 % 2 = 0 ↔ (if 3 = 2 then nI (F_m_reads g n (mv g n rs') BB).2.1.2.2.2.2.2 else ((F_m_reads g n (mv g n rs') BB).2.2.2.2.2.2.2.2.2.2.1) 3) ≤ ((F_m_reads g n (mv g n rs') BB).2.2.2.2.2.2.2.2.2.1) 3
        have e9 : ((F_m_reads g n (mv g n rs') BB).2.2.2.2.2.2.2.2.2.1) 3 = (b.2.2.2.2.2.2.2.1) 3 := by rw [i6.2.2.2.2.2.2.2.1, ← hBB]; show (if 3 = 2 then nI (mv g n rs').2.2.2.2.2 else (b.2.2.2.2.2.2.2.1) 3) = _; exact if_neg (by decide)
        have e10 : ((F_m_reads g n (mv g n rs') BB).2.2.2.2.2.2.2.2.2.2.1) 3 = (b.2.2.2.2.2.2.2.2.1) 3 := by rw [i6.2.2.2.2.2.2.2.2, ← hBB]
        rw [t6, if_neg (by decide), e9, e10]
        exact hg2
    · rw [if_pos i2]
      exact .inr ⟨i1, rfl, i3⟩
  · have hk0 : ¬ k / 8 % 2 = 0 := fun h => hb (by rw [hv, ho]; exact t1.mpr h)
    have hfl : ¬ (F_fail f n rs 3).1 = 0 := fl_ne hn (by decide) (by decide)
    have hP : F_passOnce f n rs a 10 = (F_fail f n rs 3, ((a.1), (a.2.1), (a.2.2.1), (a.2.2.2.1), (a.2.2.2.2.1), (a.2.2.2.2.2.1), (a.2.2.2.2.2.2.1), (a.2.2.2.2.2.2.2.1), (a.2.2.2.2.2.2.2.2.1), (a.2.2.2.2.2.2.2.2.2.1), (a.2.2.2.2.2.2.2.2.2.2.1), (a.2.2.2.2.2.2.2.2.2.2.2.1), (a.2.2.2.2.2.2.2.2.2.2.2.2.1) ||| kWv.getD 10 0, (a.2.2.2.2.2.2.2.2.2.2.2.2.2.1), (a.2.2.2.2.2.2.2.2.2.2.2.2.2.2.1), (a.2.2.2.2.2.2.2.2.2.2.2.2.2.2.2.1), (a.2.2.2.2.2.2.2.2.2.2.2.2.2.2.2.2.1), (a.2.2.2.2.2.2.2.2.2.2.2.2.2.2.2.2.2))) := by
      unfold F_passOnce
      rw [if_neg hb, puf_f hfl]
    have hE9 : ∀ AA : aAS, eE f n (eP f n 5) (F_fail f n rs 3) AA = (F_fail f n rs 3, AA) := fun AA => by
      unfold eE F_lev0
      exact if_neg hfl
    rw [hP]
    dsimp only
    rw [hE9]
    dsimp only
    rw [ps_f hfl, if_neg (fun h => hk0 (hg1.mpr h))]
    rcases o_fail (r0 := rs') (K := True) hfg hn (k := 3) h0 hp (by decide) (by decide) with ⟨x1, _⟩ | h
    · exact absurd x1 hfl
    · exact .inr h
theorem bl_11 : ∀ k : Nat, k < 32 → ((nI k &&& 16 = 0 ↔ k / 16 % 2 = 0) ∧ nI k ||| 16 = nI (k ||| 16) ∧ (k ||| 16) < 32 ∧ (k ||| 16) % 8 = k % 8 ∧ (k ||| 16) / 16 % 2 = 1 ∧ (k ||| 16) / 8 % 2 = k / 8 % 2) := by decide +kernel
theorem s_law1 (hfg : ∀ k, k < n → f k = g k) (hn : n ≤ 1000) {rs : rRS} {rs' : mRS} {a : aAS} {b : mAS} (hS : SR f g n rs a rs' b) (hmC : mC g n rs') (hlt : ts g n rs'.2.1 < n) :
    STO f g n rs' (F_readLaw f n rs a 11) (F_m_readsLaw1 g n rs' b) := by
  obtain ⟨h0, hp, hc, hR, k, hk, ho, ht, hg1, hg2⟩ := hS
  obtain ⟨t1, t2, t3, t4, t5, t6⟩ := bl_11 k hk
  have hv : kWv.getD 11 0 = 16 := by decide
  have hpa : te f n rs.2.1 = te g n rs'.2.1 := by rw [hp, te_same hfg]
  unfold F_readLaw F_m_readsLaw1
  rw [if_neg (show ¬ (11 : Nat) = 10 by decide)]
  by_cases hb : (a.2.2.2.2.2.2.2.2.2.2.2.2.1) &&& kWv.getD 11 0 = 0
  · have hk0 : k / 16 % 2 = 0 := t1.mp (by rw [hv, ho] at hb; exact hb)
    have hP : F_passOnce f n rs a 11 = (F_passUF f n rs, ((a.1), (a.2.1), (a.2.2.1), (a.2.2.2.1), (a.2.2.2.2.1), (a.2.2.2.2.2.1), (a.2.2.2.2.2.2.1), (a.2.2.2.2.2.2.2.1), (a.2.2.2.2.2.2.2.2.1), (a.2.2.2.2.2.2.2.2.2.1), (a.2.2.2.2.2.2.2.2.2.2.1), (a.2.2.2.2.2.2.2.2.2.2.2.1), (a.2.2.2.2.2.2.2.2.2.2.2.2.1) ||| kWv.getD 11 0, (a.2.2.2.2.2.2.2.2.2.2.2.2.2.1), (a.2.2.2.2.2.2.2.2.2.2.2.2.2.2.1), (a.2.2.2.2.2.2.2.2.2.2.2.2.2.2.2.1), (a.2.2.2.2.2.2.2.2.2.2.2.2.2.2.2.2.1), (a.2.2.2.2.2.2.2.2.2.2.2.2.2.2.2.2.2))) := by
      unfold F_passOnce
      rw [if_pos hb]
    rw [if_pos (hg2.mp hk0)]
    generalize hBB : ((b.1), (b.2.1), (b.2.2.1), (b.2.2.2.1), (b.2.2.2.2.1), (b.2.2.2.2.2.1), (b.2.2.2.2.2.2.1), upd (b.2.2.2.2.2.2.2.1) 3 (nI (mv g n rs').2.2.2.2.2), (b.2.2.2.2.2.2.2.2.1), (b.2.2.2.2.2.2.2.2.2.1), (b.2.2.2.2.2.2.2.2.2.2.1), (b.2.2.2.2.2.2.2.2.2.2.2)) = BB
    rw [hP]
    dsimp only
    rw [puf_0 h0]
    generalize hAA : ((a.1), (a.2.1), (a.2.2.1), (a.2.2.2.1), (a.2.2.2.2.1), (a.2.2.2.2.2.1), (a.2.2.2.2.2.2.1), (a.2.2.2.2.2.2.2.1), (a.2.2.2.2.2.2.2.2.1), (a.2.2.2.2.2.2.2.2.2.1), (a.2.2.2.2.2.2.2.2.2.2.1), (a.2.2.2.2.2.2.2.2.2.2.2.1), (a.2.2.2.2.2.2.2.2.2.2.2.2.1) ||| kWv.getD 11 0, (a.2.2.2.2.2.2.2.2.2.2.2.2.2.1), (a.2.2.2.2.2.2.2.2.2.2.2.2.2.2.1), (a.2.2.2.2.2.2.2.2.2.2.2.2.2.2.2.1), (a.2.2.2.2.2.2.2.2.2.2.2.2.2.2.2.2.1), (a.2.2.2.2.2.2.2.2.2.2.2.2.2.2.2.2.2)) = AA
    have hE := o_E hfg hn (rs := av f n rs) (a := AA) (r := mv g n rs') (b := BB) h0 hpa (cur_av hfg)
    rcases hE with ⟨i1, i2, i3, i4, i5, i6, i7, i8, i9⟩ | ⟨i1, i2, i3⟩
    · rw [if_neg i2]
      have hmC2 : mC g n (F_m_reads g n (mv g n rs') BB).2.1 := mC_reads (mC_mv hmC)
      have hc9 : (F_m_reads g n (mv g n rs') BB).2.1.2.2.2.2.2 ≤ 2000 := by
        have h9 : ts g n (F_m_reads g n (mv g n rs') BB).2.1.2.1 ≤ n := ts_le
        unfold mC at hmC2
        omega
      refine .inl ⟨i1, nz1, ⟨i1, i5, i4, ?_, k ||| 16, t3, ?_, ?_, ?_, ?_⟩, Nat.lt_of_le_of_lt ts_mono i9⟩
      · have hA2 : AR (eE f n (eP f n 5) (av f n rs) AA).2 (F_m_reads g n (mv g n rs') BB).2.2 := AR_fr (AR_of hR (by rw [← hAA]) (by rw [← hAA]) (by rw [← hAA]) (by rw [← hAA]) (by rw [← hAA]) (by rw [← hBB]) (by rw [← hBB]) (by rw [← hBB]) (by rw [← hBB])) i3 i6
        exact AR_of hA2 rfl rfl rfl rfl rfl rfl rfl rfl rfl
      · show ((eE f n (eP f n 5) (av f n rs) AA).2.2.2.2.2.2.2.2.2.2.2.2.2.1) = _
        rw [AFr_12 i3, ← hAA]
        show (a.2.2.2.2.2.2.2.2.2.2.2.2.1) ||| kWv.getD 11 0 = _
        rw [ho, hv, t2]
      · show (F_m_reads g n (mv g n rs') BB).2.1.2.2.2.2.1 = _
        rw [i7]
        show rs'.2.2.2.2.1 = _
        rw [ht, t4]
      · show (k ||| 16) / 8 % 2 = 0 ↔ (if 2 = 3 then nI (F_m_reads g n (mv g n rs') BB).2.1.2.2.2.2.2 else ((F_m_reads g n (mv g n rs') BB).2.2.2.2.2.2.2.2.2.2.1) 2) ≤ ((F_m_reads g n (mv g n rs') BB).2.2.2.2.2.2.2.2.2.1) 2
        have e9 : ((F_m_reads g n (mv g n rs') BB).2.2.2.2.2.2.2.2.2.1) 2 = (b.2.2.2.2.2.2.2.1) 2 := by rw [i6.2.2.2.2.2.2.2.1, ← hBB]; show (if 2 = 3 then nI (mv g n rs').2.2.2.2.2 else (b.2.2.2.2.2.2.2.1) 2) = _; exact if_neg (by decide)
        have e10 : ((F_m_reads g n (mv g n rs') BB).2.2.2.2.2.2.2.2.2.2.1) 2 = (b.2.2.2.2.2.2.2.2.1) 2 := by rw [i6.2.2.2.2.2.2.2.2, ← hBB]
        rw [t6, if_neg (by decide), e9, e10]
        exact hg1
      · show (k ||| 16) / 16 % 2 = 0 ↔ (if 3 = 3 then nI (F_m_reads g n (mv g n rs') BB).2.1.2.2.2.2.2 else ((F_m_reads g n (mv g n rs') BB).2.2.2.2.2.2.2.2.2.2.1) 3) ≤ ((F_m_reads g n (mv g n rs') BB).2.2.2.2.2.2.2.2.2.1) 3
        have e9 : ((F_m_reads g n (mv g n rs') BB).2.2.2.2.2.2.2.2.2.1) 3 = nI (mv g n rs').2.2.2.2.2 := by rw [i6.2.2.2.2.2.2.2.1, ← hBB]; show (if 3 = 3 then nI (mv g n rs').2.2.2.2.2 else (b.2.2.2.2.2.2.2.1) 3) = _; exact if_pos rfl
        rw [t5, if_pos rfl, e9]
        have i8 : (mv g n rs').2.2.2.2.2 < (F_m_reads g n (mv g n rs') BB).2.1.2.2.2.2.2 := i8
        exact ⟨fun h => absurd h (by decide), fun h => absurd h (nI_ge i8 (by omega))⟩
    · rw [if_pos i2]
      exact .inr ⟨i1, rfl, i3⟩
  · have hk0 : ¬ k / 16 % 2 = 0 := fun h => hb (by rw [hv, ho]; exact t1.mpr h)
    have hfl : ¬ (F_fail f n rs 3).1 = 0 := fl_ne hn (by decide) (by decide)
    have hP : F_passOnce f n rs a 11 = (F_fail f n rs 3, ((a.1), (a.2.1), (a.2.2.1), (a.2.2.2.1), (a.2.2.2.2.1), (a.2.2.2.2.2.1), (a.2.2.2.2.2.2.1), (a.2.2.2.2.2.2.2.1), (a.2.2.2.2.2.2.2.2.1), (a.2.2.2.2.2.2.2.2.2.1), (a.2.2.2.2.2.2.2.2.2.2.1), (a.2.2.2.2.2.2.2.2.2.2.2.1), (a.2.2.2.2.2.2.2.2.2.2.2.2.1) ||| kWv.getD 11 0, (a.2.2.2.2.2.2.2.2.2.2.2.2.2.1), (a.2.2.2.2.2.2.2.2.2.2.2.2.2.2.1), (a.2.2.2.2.2.2.2.2.2.2.2.2.2.2.2.1), (a.2.2.2.2.2.2.2.2.2.2.2.2.2.2.2.2.1), (a.2.2.2.2.2.2.2.2.2.2.2.2.2.2.2.2.2))) := by
      unfold F_passOnce
      rw [if_neg hb, puf_f hfl]
    have hE9 : ∀ AA : aAS, eE f n (eP f n 5) (F_fail f n rs 3) AA = (F_fail f n rs 3, AA) := fun AA => by
      unfold eE F_lev0
      exact if_neg hfl
    rw [hP]
    dsimp only
    rw [hE9]
    dsimp only
    rw [ps_f hfl, if_neg (fun h => hk0 (hg2.mpr h))]
    rcases o_fail (r0 := rs') (K := True) hfg hn (k := 3) h0 hp (by decide) (by decide) with ⟨x1, _⟩ | h
    · exact absurd x1 hfl
    · exact .inr h
theorem rab_f {rs : rRS} {a : aAS} (h : ¬ rs.1 = 0) : ∀ K : Nat, F_rab f n K rs a = (rs.1, rs, a)
  | 0 => rfl
  | K + 1 => by
    have h9 : F_goesOn f n rs = 0 := by unfold F_goesOn; exact if_neg h
    rw [F_rab_s, if_pos h9]
/-- the whole abbey: one fault, or what both hold in one relation -/
def ABO (f g : Nat → Int32) (n : Nat) (X : Int32 × rRS × aAS) (res : Int32 × mRS × mAS) : Prop :=
  (X.1 = 0 ∧ ¬ res.1 = 0 ∧ AR X.2.2 res.2.2 ∧ aOK X.2.2) ∨ (¬ X.1 = 0 ∧ res.1 = 0 ∧ res.2.1.1 = X.1)
theorem ab_step {K k : Nat} {r0 : mRS} {x : rRS × aAS} {y : Int32 × mRS × mAS} (hO : STO f g n r0 x y) (ho : aOK x.2) (hm : mOK y.2.2) (hc : mC g n y.2.1)
    (ih : SR f g n x.1 x.2 y.2.1 y.2.2 → ts g n r0.2.1 < ts g n y.2.1.2.1 → ∃ res, F_m_rall g n k y.2.1 y.2.2 = some res ∧ ABO f g n (F_rab f n K x.1 x.2) res) :
    ∃ res, (if y.1 = 0 then some (0, y.2.1, y.2.2) else F_m_rall g n k y.2.1 y.2.2) = some res ∧ ABO f g n (F_rab f n K x.1 x.2) res := by
  rcases hO with ⟨a1, a2, a3, a4⟩ | ⟨a1, a2, a3⟩
  · rw [if_neg a2]
    exact ih a3 a4
  · rw [if_pos a2, rab_f a1]
    exact ⟨_, rfl, .inr ⟨a1, rfl, a3⟩⟩
theorem rab_sim (hfg : ∀ k, k < n → f k = g k) (hn : n ≤ 1000) : ∀ (K k : Nat) (rs : rRS) (a : aAS) (rs' : mRS) (b : mAS), n - ts g n rs'.2.1 ≤ K → n - ts g n rs'.2.1 < k → SR f g n rs a rs' b → aOK a → mOK b → mC g n rs' → ∃ res, F_m_rall g n k rs' b = some res ∧ ABO f g n (F_rab f n K rs a) res := by
  intro K
  induction K with
  | zero =>
    intro k rs a rs' b hK hk hS hA hM hC
    obtain ⟨k, rfl⟩ : ∃ j, k = j + 1 := ⟨k - 1, by omega⟩
    have h1 : mk g n rs'.2.1 = 0 := by
      unfold mk mk1
      rw [if_neg (by omega)]
    rw [F_m_rall_s, if_pos h1]
    exact ⟨_, rfl, .inl ⟨hS.1, nz1, hS.2.2.2.1, hA⟩⟩
  | succ K ih =>
    intro k rs a rs' b hK hk hS hA hM hC
    obtain ⟨k, rfl⟩ : ∃ j, k = j + 1 := ⟨k - 1, by omega⟩
    have h0 := hS.1
    have hp := hS.2.1
    rw [F_m_rall_s, F_rab_s]
    by_cases hz : tk f n rs.2.1 = 0
    · have h9 : F_goesOn f n rs = 0 := by
        unfold F_goesOn
        rw [if_pos h0, if_pos hz]
      have h1 : mk g n rs'.2.1 = 0 := (k0_eq hfg).mpr (by rw [← hp]; exact hz)
      rw [if_pos h9, if_pos h1]
      exact ⟨_, rfl, .inl ⟨h0, nz1, hS.2.2.2.1, hA⟩⟩
    · have h9 : ¬ F_goesOn f n rs = 0 := by
        unfold F_goesOn
        rw [if_pos h0, if_neg hz]
        decide
      have h1 : ¬ mk g n rs'.2.1 = 0 := fun h => hz (by rw [hp]; exact (k0_eq hfg).mp h)
      have hlt : ts g n rs'.2.1 < n := mk_lt h1
      rw [if_neg h9, if_neg h1, hp]
      by_cases w2 : tw f n rs'.2.1 = 2
      · rw [if_pos w2, if_neg (wd1 (r := rs') hfg (i := 2) (x := 7871591333) (by decide) (by decide) (by decide) w2)]
        exact ab_step (s_thought hfg hn hA hS hlt) (ok_readThought hn hA) (ok_m_readsThought hM) (mC_readsThought hC) (fun q1 q2 => ih k _ _ _ _ (by omega) (by omega) q1 (ok_readThought hn hA) (ok_m_readsThought hM) (mC_readsThought hC))
      · skip
        by_cases w5 : tw f n rs'.2.1 = 5
        · rw [if_neg w2, if_pos w5, if_pos (wd0 (r := rs') hfg (i := 2) (x := 7871591333) (by decide) (by decide) (by decide) (by rw [w5]; decide)), if_neg (wd1 (r := rs') hfg (i := 5) (x := 2546381602) (by decide) (by decide) (by decide) w5)]
          exact ab_step (s_follows hfg hn hA hS hlt) (ok_readFollows hn hA) (ok_m_readsFollows hM) (mC_readsFollows hC) (fun q1 q2 => ih k _ _ _ _ (by omega) (by omega) q1 (ok_readFollows hn hA) (ok_m_readsFollows hM) (mC_readsFollows hC))
        · skip
          by_cases w6 : tw f n rs'.2.1 = 6
          · rw [if_neg w2, if_neg w5, if_pos w6, if_pos (wd0 (r := rs') hfg (i := 2) (x := 7871591333) (by decide) (by decide) (by decide) (by rw [w6]; decide)), if_pos (wd0 (r := rs') hfg (i := 5) (x := 2546381602) (by decide) (by decide) (by decide) (by rw [w6]; decide)), if_neg (wd1 (r := rs') hfg (i := 6) (x := 289912034) (by decide) (by decide) (by decide) w6)]
            exact ab_step (s_tenant hfg hn hA hS hlt) (ok_readTenant hn hA) (ok_m_readsTenant hM) (mC_readsTenant hC) (fun q1 q2 => ih k _ _ _ _ (by omega) (by omega) q1 (ok_readTenant hn hA) (ok_m_readsTenant hM) (mC_readsTenant hC))
          · skip
            by_cases w7 : tw f n rs'.2.1 = 7
            · rw [if_neg w2, if_neg w5, if_neg w6, if_pos w7, if_pos (wd0 (r := rs') hfg (i := 2) (x := 7871591333) (by decide) (by decide) (by decide) (by rw [w7]; decide)), if_pos (wd0 (r := rs') hfg (i := 5) (x := 2546381602) (by decide) (by decide) (by decide) (by rw [w7]; decide)), if_pos (wd0 (r := rs') hfg (i := 6) (x := 289912034) (by decide) (by decide) (by decide) (by rw [w7]; decide)), if_neg (wd1 (r := rs') hfg (i := 7) (x := 10820768) (by decide) (by decide) (by decide) w7)]
              rw [w7]
              exact ab_step (s_one2 hfg hn hS hlt) (ok_readSetting hn hA) (ok_m_readsOne2 hM) (mC_readsOne2 hC) (fun q1 q2 => ih k _ _ _ _ (by omega) (by omega) q1 (ok_readSetting hn hA) (ok_m_readsOne2 hM) (mC_readsOne2 hC))
            · skip
              by_cases w8 : tw f n rs'.2.1 = 8
              · rw [if_neg w2, if_neg w5, if_neg w6, if_neg w7, if_pos w8, if_pos (wd0 (r := rs') hfg (i := 2) (x := 7871591333) (by decide) (by decide) (by decide) (by rw [w8]; decide)), if_pos (wd0 (r := rs') hfg (i := 5) (x := 2546381602) (by decide) (by decide) (by decide) (by rw [w8]; decide)), if_pos (wd0 (r := rs') hfg (i := 6) (x := 289912034) (by decide) (by decide) (by decide) (by rw [w8]; decide)), if_pos (wd0 (r := rs') hfg (i := 7) (x := 10820768) (by decide) (by decide) (by decide) (by rw [w8]; decide)), if_neg (wd1 (r := rs') hfg (i := 8) (x := 370000) (by decide) (by decide) (by decide) w8)]
                rw [w8]
                exact ab_step (s_one3 hfg hn hS hlt) (ok_readSetting hn hA) (ok_m_readsOne3 hM) (mC_readsOne3 hC) (fun q1 q2 => ih k _ _ _ _ (by omega) (by omega) q1 (ok_readSetting hn hA) (ok_m_readsOne3 hM) (mC_readsOne3 hC))
              · skip
                by_cases w9 : tw f n rs'.2.1 = 9
                · rw [if_neg w2, if_neg w5, if_neg w6, if_neg w7, if_neg w8, if_pos w9, if_pos (wd0 (r := rs') hfg (i := 2) (x := 7871591333) (by decide) (by decide) (by decide) (by rw [w9]; decide)), if_pos (wd0 (r := rs') hfg (i := 5) (x := 2546381602) (by decide) (by decide) (by decide) (by rw [w9]; decide)), if_pos (wd0 (r := rs') hfg (i := 6) (x := 289912034) (by decide) (by decide) (by decide) (by rw [w9]; decide)), if_pos (wd0 (r := rs') hfg (i := 7) (x := 10820768) (by decide) (by decide) (by decide) (by rw [w9]; decide)), if_pos (wd0 (r := rs') hfg (i := 8) (x := 370000) (by decide) (by decide) (by decide) (by rw [w9]; decide)), if_neg (wd1 (r := rs') hfg (i := 9) (x := 79329434) (by decide) (by decide) (by decide) w9)]
                  rw [w9]
                  exact ab_step (s_one4 hfg hn hS hlt) (ok_readSetting hn hA) (ok_m_readsOne4 hM) (mC_readsOne4 hC) (fun q1 q2 => ih k _ _ _ _ (by omega) (by omega) q1 (ok_readSetting hn hA) (ok_m_readsOne4 hM) (mC_readsOne4 hC))
                · skip
                  by_cases w10 : tw f n rs'.2.1 = 10
                  · rw [if_neg w2, if_neg w5, if_neg w6, if_neg w7, if_neg w8, if_neg w9, if_pos w10, if_pos (wd0 (r := rs') hfg (i := 2) (x := 7871591333) (by decide) (by decide) (by decide) (by rw [w10]; decide)), if_pos (wd0 (r := rs') hfg (i := 5) (x := 2546381602) (by decide) (by decide) (by decide) (by rw [w10]; decide)), if_pos (wd0 (r := rs') hfg (i := 6) (x := 289912034) (by decide) (by decide) (by decide) (by rw [w10]; decide)), if_pos (wd0 (r := rs') hfg (i := 7) (x := 10820768) (by decide) (by decide) (by decide) (by rw [w10]; decide)), if_pos (wd0 (r := rs') hfg (i := 8) (x := 370000) (by decide) (by decide) (by decide) (by rw [w10]; decide)), if_pos (wd0 (r := rs') hfg (i := 9) (x := 79329434) (by decide) (by decide) (by decide) (by rw [w10]; decide)), if_neg (wd1 (r := rs') hfg (i := 10) (x := 3746728) (by decide) (by decide) (by decide) w10)]
                    rw [w10]
                    exact ab_step (s_law0 hfg hn hS hC hlt) (ok_readLaw hn hA) (ok_m_readsLaw0 hM) (mC_readsLaw0 hC) (fun q1 q2 => ih k _ _ _ _ (by omega) (by omega) q1 (ok_readLaw hn hA) (ok_m_readsLaw0 hM) (mC_readsLaw0 hC))
                  · skip
                    by_cases w11 : tw f n rs'.2.1 = 11
                    · rw [if_neg w2, if_neg w5, if_neg w6, if_neg w7, if_neg w8, if_neg w9, if_neg w10, if_pos w11, if_pos (wd0 (r := rs') hfg (i := 2) (x := 7871591333) (by decide) (by decide) (by decide) (by rw [w11]; decide)), if_pos (wd0 (r := rs') hfg (i := 5) (x := 2546381602) (by decide) (by decide) (by decide) (by rw [w11]; decide)), if_pos (wd0 (r := rs') hfg (i := 6) (x := 289912034) (by decide) (by decide) (by decide) (by rw [w11]; decide)), if_pos (wd0 (r := rs') hfg (i := 7) (x := 10820768) (by decide) (by decide) (by decide) (by rw [w11]; decide)), if_pos (wd0 (r := rs') hfg (i := 8) (x := 370000) (by decide) (by decide) (by decide) (by rw [w11]; decide)), if_pos (wd0 (r := rs') hfg (i := 9) (x := 79329434) (by decide) (by decide) (by decide) (by rw [w11]; decide)), if_pos (wd0 (r := rs') hfg (i := 10) (x := 3746728) (by decide) (by decide) (by decide) (by rw [w11]; decide)), if_neg (wd1 (r := rs') hfg (i := 11) (x := 40187) (by decide) (by decide) (by decide) w11)]
                      rw [w11]
                      exact ab_step (s_law1 hfg hn hS hC hlt) (ok_readLaw hn hA) (ok_m_readsLaw1 hM) (mC_readsLaw1 hC) (fun q1 q2 => ih k _ _ _ _ (by omega) (by omega) q1 (ok_readLaw hn hA) (ok_m_readsLaw1 hM) (mC_readsLaw1 hC))
                    · skip
                      rw [if_neg w2, if_neg w5, if_neg w6, if_neg w7, if_neg w8, if_neg w9, if_neg w10, if_neg w11, if_pos (wd0 (r := rs') hfg (i := 2) (x := 7871591333) (by decide) (by decide) (by decide) w2), if_pos (wd0 (r := rs') hfg (i := 5) (x := 2546381602) (by decide) (by decide) (by decide) w5), if_pos (wd0 (r := rs') hfg (i := 6) (x := 289912034) (by decide) (by decide) (by decide) w6), if_pos (wd0 (r := rs') hfg (i := 7) (x := 10820768) (by decide) (by decide) (by decide) w7), if_pos (wd0 (r := rs') hfg (i := 8) (x := 370000) (by decide) (by decide) (by decide) w8), if_pos (wd0 (r := rs') hfg (i := 9) (x := 79329434) (by decide) (by decide) (by decide) w9), if_pos (wd0 (r := rs') hfg (i := 10) (x := 3746728) (by decide) (by decide) (by decide) w10), if_pos (wd0 (r := rs') hfg (i := 11) (x := 40187) (by decide) (by decide) (by decide) w11), rab_f (f := f) (rs := F_fail f n rs 1) (fl_ne hn (by decide) (by decide))]
                      refine ⟨_, rfl, .inr ⟨fl_ne hn (by decide) (by decide), rfl, ?_⟩⟩
                      show 1 + 16 * nI (ts g n rs'.2.1) = (F_fail f n rs 1).1
                      rw [fail_0 h0, hp, ts_same hfg]
/-- what both answer of an abbey -/
theorem abbey_sim (hfg : ∀ k, k < n → f k = g k) (hn : n ≤ 1000) {a : aAS} {t5 : Int32} {t6 : Int64} {w0 w1 : Int32} {w2 : Int64} {b : mAS} {b0x : Nat → Int32} (hC : b.1 = F_m_usual1 b0x) (hl : (b.2.2.2.2.2.2.2.2.1) 2 ≤ (b.2.2.2.2.2.2.2.1) 2 ∧ (b.2.2.2.2.2.2.2.2.1) 3 ≤ (b.2.2.2.2.2.2.2.1) 3) : ∃ res, F_m_rall g n 1001 (w0, 0, w1, w2, 0, 1000) b = some res ∧ ABO f g n (F_readAbbey f n a t5 t6) res := by
  have e5 : b.1 5 = 0 := by rw [hC]; rfl
  have e6 : b.1 6 = 0 := by rw [hC]; rfl
  refine rab_sim hfg hn 1000 1001 (rs0 f n t5 t6) (F_clear a) (w0, 0, w1, w2, 0, 1000) b (by omega) (by omega) ⟨rfl, rfl, cur_of hfg, ⟨e5, e6, fun i hi => absurd hi (Nat.not_lt_zero _), fun i hi => absurd hi (Nat.not_lt_zero _), fun i hi => absurd hi (Nat.not_lt_zero _)⟩, 0, by decide, rfl, rfl, ⟨fun _ => hl.1, fun _ => rfl⟩, ⟨fun _ => hl.2, fun _ => rfl⟩⟩ ok_clear ?_ (Nat.le_add_right _ _)
  unfold mOK
  rw [e5, e6]
  decide
end LAWS

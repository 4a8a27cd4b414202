/-! the readers' single steps, side by side -/
theorem nz1 : ¬ (1 : Int32) = 0 := by decide
section PR
variable {f g : Nat → Int32} {n : Nat}
theorem te_same (hfg : ∀ k, k < n → f k = g k) {p : Nat} : te f n p = te g n p := by
  unfold te
  rw [ts_same hfg, te1_same hfg]
theorem fail_f {rs : rRS} {k : Int32} (h : ¬ rs.1 = 0) : F_fail f n rs k = rs := by
  unfold F_fail
  exact if_neg h
theorem fail_0 {rs : rRS} {k : Int32} (h : rs.1 = 0) : (F_fail f n rs k).1 = k + 16 * nI (ts f n rs.2.1) := by
  unfold F_fail
  rw [if_pos h]
theorem puf_f {rs : rRS} (h : ¬ rs.1 = 0) : F_passUF f n rs = rs := by
  unfold F_passUF
  exact if_neg h
theorem puf_0 {rs : rRS} (h : rs.1 = 0) : F_passUF f n rs = av f n rs := by
  unfold F_passUF
  exact if_pos h
theorem ps_f {rs : rRS} {k : Int32} (h : ¬ rs.1 = 0) : F_passSign f n rs k = rs := by
  unfold F_passSign
  rw [if_neg h, fail_f h]
  split <;> rfl
theorem pw_f {rs : rRS} {w : Nat} (h : ¬ rs.1 = 0) : F_passWord f n rs w = rs := by
  unfold F_passWord
  rw [if_neg h, fail_f h]
  split <;> rfl
theorem nw_f {rs : rRS} {lo hi : Int32} (h : ¬ rs.1 = 0) : (F_numberWithin f n rs lo hi).2 = rs := by
  unfold F_numberWithin
  simp only [fail_f h, puf_f h]
  repeat' split
  all_goals rfl
theorem nn_f {rs : rRS} {a : aAS} (h : ¬ rs.1 = 0) : (F_newName f n rs a).2 = rs := by
  unfold F_newName
  simp only [fail_f h, puf_f h]
  repeat' split
  all_goals rfl
theorem th_f {rs : rRS} {a : aAS} (h : ¬ rs.1 = 0) : (F_thoughtHere f n rs a).2 = rs := by
  unfold F_thoughtHere F_foundHere
  simp only [fail_f h]
  repeat' split
  all_goals rfl
/-- how a step of both ends: well, at one place; or with one fault -/
def OutR (f g : Nat → Int32) (n : Nat) (r0 : mRS) (rs : rRS) (b : Int32) (rs' : mRS) (K : Prop) : Prop :=
  (rs.1 = 0 ∧ ¬ b = 0 ∧ rs.2.1 = rs'.2.1 ∧ cur f g n rs ∧ ts g n r0.2.1 ≤ ts g n rs'.2.1 ∧ K) ∨ (¬ rs.1 = 0 ∧ b = 0 ∧ rs'.1 = rs.1)
theorem o_mono {r0 r1 : mRS} {rs : rRS} {b : Int32} {rs' : mRS} {K K' : Prop} (h : OutR f g n r1 rs b rs' K) (ht : ts g n r0.2.1 ≤ ts g n r1.2.1) (hK : K → K') : OutR f g n r0 rs b rs' K' := by
  rcases h with ⟨a1, a2, a3, a4, a5, a6⟩ | h
  · exact .inl ⟨a1, a2, a3, a4, Nat.le_trans ht a5, hK a6⟩
  · exact .inr h
theorem o_fail (hfg : ∀ k, k < n → f k = g k) (hn : n ≤ 1000) {r0 : mRS} {rs : rRS} {rs' : mRS} {k : Int32} {K : Prop} (h0 : rs.1 = 0) (hp : rs.2.1 = rs'.2.1) (h1 : 0 < k.toInt) (h2 : k.toInt ≤ 5) : OutR f g n r0 (F_fail f n rs k) 0 (F_m_fails g n rs' k) K :=
  .inr ⟨fl_ne hn h1 h2, rfl, by
    show k + 16 * nI (ts g n rs'.2.1) = _
    rw [fail_0 h0, hp, ts_same hfg]⟩
theorem o_num (hfg : ∀ k, k < n → f k = g k) (hn : n ≤ 1000) {rs : rRS} {rs' : mRS} {lo hi : Int32} (h0 : rs.1 = 0) (hp : rs.2.1 = rs'.2.1) (hc : cur f g n rs) :
    OutR f g n rs' (F_numberWithin f n rs lo hi).2 (F_m_needsNumber g n rs' lo hi).1 (F_m_needsNumber g n rs' lo hi).2 ((F_m_needsNumber g n rs' lo hi).2.2.2.2 = rs'.2.2.2) := by
  have hf : ∀ k : Int32, 0 < k.toInt → k.toInt ≤ 5 → F_passUF f n (F_fail f n rs k) = F_fail f n rs k := fun k a b => puf_f (fl_ne hn a b)
  unfold F_numberWithin F_m_needsNumber F_m_within
  by_cases hk : tk f n rs.2.1 = 2
  · have hk' : mk g n rs'.2.1 = 2 := (k2_eq (rs := rs') hfg).mpr (by rw [← hp]; exact hk)
    have hm : mt g n rs'.2.1 = rs.2.2.1 := by rw [← hp]; exact (hc.1 hk).symm
    rw [if_pos hk, if_pos hk', hm]
    by_cases h1 : rs.2.2.1 < lo
    · rw [if_pos h1, if_pos h1, hf 4 (by decide) (by decide), if_neg (fl_ne hn (by decide) (by decide)), if_pos rfl]
      exact o_fail hfg hn h0 hp (by decide) (by decide)
    · rw [if_neg h1, if_neg h1]
      by_cases h2 : rs.2.2.1 ≤ hi
      · rw [if_pos h2, if_neg (Int32.not_lt.mpr h2), puf_0 h0, if_pos (show (av f n rs).1 = 0 from h0), if_neg (show ¬ (1 : Int32) = 0 by decide)]
        exact .inl ⟨h0, nz1, by show te f n rs.2.1 = te g n rs'.2.1; rw [hp, te_same hfg], cur_av hfg, ts_mono, rfl⟩
      · rw [if_neg h2, if_pos (Int32.not_le.mp h2), hf 4 (by decide) (by decide), if_neg (fl_ne hn (by decide) (by decide)), if_pos rfl]
        exact o_fail hfg hn h0 hp (by decide) (by decide)
  · have hk' : ¬ mk g n rs'.2.1 = 2 := fun h => hk (by rw [hp]; exact (k2_eq (rs := rs') hfg).mp h)
    rw [if_neg hk, if_neg hk', hf 1 (by decide) (by decide), if_neg (fl_ne hn (by decide) (by decide))]
    exact o_fail hfg hn h0 hp (by decide) (by decide)
theorem o_both (hfg : ∀ k, k < n → f k = g k) (hn : n ≤ 1000) {rs : rRS} {rs' : mRS} {lo hi : Int32} {i : Nat} {c : Int64} (h2 : 2 ≤ i) (hi26 : i < 26) (hcst : w27.getD i 0 = c) (h0 : rs.1 = 0) (hp : rs.2.1 = rs'.2.1) :
    OutR f g n rs' (F_numberWithin f n (F_passWord f n rs i) lo hi).2 (F_m_needsBoth g n rs' c lo hi).1 (F_m_needsBoth g n rs' c lo hi).2 ((F_m_needsBoth g n rs' c lo hi).2.2.2.2 = rs'.2.2.2) := by
  have hw := w_eq (rs := rs') hfg h2 hi26
  rw [hcst, ← hp] at hw
  unfold F_m_needsBoth F_passWord
  by_cases h : tw f n rs.2.1 = i
  · rw [if_pos h] at hw
    rw [hw, if_neg (show ¬ (1 : Int32) = 0 by decide), if_pos h, if_pos h0]
    exact o_mono (o_num hfg hn (rs := av f n rs) (rs' := mv g n rs') h0 (by show te f n rs.2.1 = te g n rs'.2.1; rw [hp, te_same hfg]) (cur_av hfg)) ts_mono id
  · rw [if_neg h] at hw
    rw [hw, if_pos rfl, if_neg h, nw_f (fl_ne hn (by decide) (by decide))]
    exact o_fail hfg hn h0 hp (by decide) (by decide)
theorem o_close (hfg : ∀ k, k < n → f k = g k) (hn : n ≤ 1000) {rs : rRS} {rs' : mRS} (h0 : rs.1 = 0) (hp : rs.2.1 = rs'.2.1) :
    OutR f g n rs' (F_passSign f n rs 59) (F_m_closes g n rs').1 (F_m_closes g n rs').2 ((F_m_closes g n rs').2.2.2 = rs'.2.2) := by
  have hw := s_eq (rs := rs') hfg hn (c := 59) (by decide)
  rw [← hp] at hw
  unfold F_m_closes F_passSign
  by_cases h : tk f n rs.2.1 = 59
  · rw [if_pos h] at hw
    rw [hw, if_neg (show ¬ (1 : Int32) = 0 by decide), if_pos h, if_pos h0]
    exact .inl ⟨h0, nz1, by show te f n rs.2.1 = te g n rs'.2.1; rw [hp, te_same hfg], cur_av hfg, ts_mono, rfl⟩
  · rw [if_neg h] at hw
    rw [hw, if_pos rfl, if_neg h]
    exact o_fail hfg hn h0 hp (by decide) (by decide)
theorem pl_eq {nm nm' : Nat → Int64} {x y : Int64} {m : Nat} (h : ∀ i, i < m → (nm i = x ↔ nm' i = y)) : ∀ d i : Nat, i + d ≤ m → pl nm x d i = pl nm' y d i
  | 0, _, _ => rfl
  | d + 1, i, hd => by
    show (if nm i = x then nI i else pl nm x d (i + 1)) = (if nm' i = y then nI i else pl nm' y d (i + 1))
    rw [pl_eq h d (i + 1) (by omega)]
    by_cases e : nm i = x
    · rw [if_pos e, if_pos ((h i (by omega)).mp e)]
    · rw [if_neg e, if_neg (fun e' => e ((h i (by omega)).mpr e'))]
/-- what is told so far: counts, names, what may follow what -/
def AR (a : aAS) (b : mAS) : Prop := b.1 5 = nI (a.2.2.2.2.2.2.2.1) ∧ b.1 6 = nI (a.2.2.2.2.2.2.2.2.1) ∧ (∀ i, i < (a.2.2.2.2.2.2.2.1) → nR (a.1 i) (b.2.1 (8 + i))) ∧ (∀ i, i < (a.2.2.2.2.2.2.2.2.1) → nR ((a.2.2.2.2.1) i) (b.2.2.1 (5 + i))) ∧ (∀ i, i < (a.2.2.2.2.2.2.2.1) → (a.2.2.2.1) i = (b.2.2.2.2.2.1) (8 + i))
theorem n_th {a : aAS} {b : mAS} {rs' : mRS} {x : Int64} (hA : aOK a) (hR : AR a b) (hx : nR x (mw g n rs'.2.1)) : F_thoughtNamed a x = F_m_thoughtNamed1 g n rs' b := by
  have hT : (a.2.2.2.2.2.2.2.1) ≤ 8 := hA.1
  unfold F_thoughtNamed F_m_thoughtNamed1
  rw [hR.1, nI_clamp (by omega)]
  exact pl_eq (m := (a.2.2.2.2.2.2.2.1)) (fun i hi => nR_eq (hR.2.2.1 i hi) hx) _ 0 (by omega)
theorem n_tn {a : aAS} {b : mAS} {rs' : mRS} {x : Int64} (hA : aOK a) (hR : AR a b) (hx : nR x (mw g n rs'.2.1)) : F_tenantNamed a x = F_m_tenantNamed1 g n rs' b := by
  have hT : (a.2.2.2.2.2.2.2.2.1) ≤ 5 := hA.2.1
  unfold F_tenantNamed F_m_tenantNamed1
  rw [hR.2.1, nI_clamp (by omega)]
  exact pl_eq (m := (a.2.2.2.2.2.2.2.2.1)) (fun i hi => nR_eq (hR.2.2.2.1 i hi) hx) _ 0 (by omega)
theorem th_cases {a : aAS} {x : Int64} (hA : aOK a) : F_thoughtNamed a x = -1 ∨ ∃ j, j < (a.2.2.2.2.2.2.2.1) ∧ F_thoughtNamed a x = nI j := by
  unfold F_thoughtNamed
  rcases pl_in (nm := a.1) (x := x) (a.2.2.2.2.2.2.2.1) 0 with h | ⟨j, h1, h2, h3, h4⟩
  · exact .inl h
  · exact .inr ⟨j, by omega, h4⟩
theorem tn_cases {a : aAS} {x : Int64} (hA : aOK a) : F_tenantNamed a x = -1 ∨ ∃ j, j < (a.2.2.2.2.2.2.2.2.1) ∧ F_tenantNamed a x = nI j := by
  unfold F_tenantNamed
  rcases pl_in (nm := (a.2.2.2.2.1)) (x := x) (a.2.2.2.2.2.2.2.2.1) 0 with h | ⟨j, h1, h2, h3, h4⟩
  · exact .inl h
  · exact .inr ⟨j, by omega, h4⟩
theorem nI_m1 {j : Nat} (h : j < 1000) : ¬ nI j = -1 := by
  intro e
  have := congrArg Int32.toInt e
  rw [nI_toInt (by omega), show (-1 : Int32).toInt = -1 from by decide] at this
  omega
theorem o_new (hfg : ∀ k, k < n → f k = g k) (hn : n ≤ 1000) {rs : rRS} {rs' : mRS} {a : aAS} {b : mAS} (hA : aOK a) (hR : AR a b) (h0 : rs.1 = 0) (hp : rs.2.1 = rs'.2.1) (hc : cur f g n rs) :
    OutR f g n rs' (F_newName f n rs a).2 (F_m_needsNew g n rs' b).1 (F_m_needsNew g n rs' b).2 ((F_m_needsNew g n rs' b).2.2.2.2.2 = rs'.2.2.2.2 ∧ nR (F_newName f n rs a).1 (F_m_needsNew g n rs' b).2.2.2.2.1) := by
  have hf : ∀ k : Int32, 0 < k.toInt → k.toInt ≤ 5 → F_passUF f n (F_fail f n rs k) = F_fail f n rs k := fun k a b => puf_f (fl_ne hn a b)
  have hk := kept_eq (rs := rs') hfg
  rw [← hp] at hk
  have hT : (a.2.2.2.2.2.2.2.1) ≤ 8 := hA.1
  have hQ : (a.2.2.2.2.2.2.2.2.1) ≤ 5 := hA.2.1
  unfold F_newName F_m_needsNew
  by_cases hm : kWm.getD (tw f n rs.2.1) 0 = 0
  · have h1 : ¬ F_m_isKept g n rs' = 0 := fun h => (hk.mp h) hm
    rw [if_pos hm, if_neg h1, hf 1 (by decide) (by decide)]
    exact o_fail hfg hn h0 hp (by decide) (by decide)
  · have h1 : F_m_isKept g n rs' = 0 := hk.mpr hm
    have hx : nR rs.2.2.2 (mw g n rs'.2.1) := by rw [← hp]; exact hc.2 (name_w hfg hm)
    rw [if_neg hm, if_pos h1, ← n_th hA hR hx, ← n_tn hA hR hx]
    rcases th_cases (x := rs.2.2.2) hA with e | ⟨j, hj, e⟩
    · rw [e, if_pos rfl, if_neg (show ¬ (0 : Int32) ≤ -1 by decide)]
      rcases tn_cases (x := rs.2.2.2) hA with e2 | ⟨j, hj, e2⟩
      · rw [e2, if_pos rfl, if_pos (show (-1 : Int32) < 0 by decide), puf_0 h0]
        exact .inl ⟨h0, nz1, by show te f n rs.2.1 = te g n rs'.2.1; rw [hp, te_same hfg], cur_av hfg, ts_mono, rfl, hx⟩
      · rw [e2, if_neg (nI_m1 (by omega)), if_neg (nI_pos (by omega)), hf 3 (by decide) (by decide)]
        exact o_fail hfg hn h0 hp (by decide) (by decide)
    · rw [e, if_neg (nI_m1 (by omega)), if_pos (nI_pos' (by omega)), hf 3 (by decide) (by decide)]
      exact o_fail hfg hn h0 hp (by decide) (by decide)
theorem o_th (hfg : ∀ k, k < n → f k = g k) (hn : n ≤ 1000) {rs : rRS} {rs' : mRS} {a : aAS} {b : mAS} (hA : aOK a) (hR : AR a b) (h0 : rs.1 = 0) (hp : rs.2.1 = rs'.2.1) (hc : cur f g n rs) :
    OutR f g n rs' (F_thoughtHere f n rs a).2 (F_m_needsThought1 g n rs' b).1 (F_m_needsThought1 g n rs' b).2 ((F_m_needsThought1 g n rs' b).2.2.2.2 = rs'.2.2.2 ∧ ∃ j, j < (a.2.2.2.2.2.2.2.1) ∧ (F_thoughtHere f n rs a).1 = nI j ∧ (F_m_needsThought1 g n rs' b).2.2.2.1 = nI j) := by
  have hk := kept_eq (rs := rs') hfg
  rw [← hp] at hk
  have hT : (a.2.2.2.2.2.2.2.1) ≤ 8 := hA.1
  unfold F_thoughtHere F_foundHere F_m_needsThought1
  by_cases hm : kWm.getD (tw f n rs.2.1) 0 = 0
  · have h1 : ¬ F_m_isKept g n rs' = 0 := fun h => (hk.mp h) hm
    rw [if_pos hm, if_neg h1, if_neg (fl_ne hn (by decide) (by decide))]
    exact o_fail hfg hn h0 hp (by decide) (by decide)
  · have h1 : F_m_isKept g n rs' = 0 := hk.mpr hm
    have hx : nR rs.2.2.2 (mw g n rs'.2.1) := by rw [← hp]; exact hc.2 (name_w hfg hm)
    rw [if_neg hm, if_pos h1, ← n_th hA hR hx]
    rcases th_cases (x := rs.2.2.2) hA with e | ⟨j, hj, e⟩
    · rw [e, if_pos rfl, if_neg (show ¬ (0 : Int32) ≤ -1 by decide), if_neg (fl_ne hn (by decide) (by decide))]
      exact o_fail hfg hn (rs' := (rs'.1, rs'.2.1, -1, rs'.2.2.2.1, rs'.2.2.2.2.1, rs'.2.2.2.2.2)) h0 hp (by decide) (by decide)
    · rw [e, if_neg (nI_m1 (by omega)), if_pos (nI_pos' (by omega)), if_pos h0]
      exact .inl ⟨h0, nz1, hp, hc, Nat.le_refl _, rfl, j, hj, rfl, rfl⟩
end PR
/-- which laws were told: bits of the class; the model's lines -/
def LR (o t : Int32) (lF lT : Nat → Int32) : Prop := ∃ k : Nat, k < 32 ∧ o = nI k ∧ t = nI (k % 8 * 4) ∧ (k / 8 % 2 = 0 ↔ lT 2 ≤ lF 2) ∧ (k / 16 % 2 = 0 ↔ lT 3 ≤ lF 3)
def SR (f g : Nat → Int32) (n : Nat) (rs : rRS) (a : aAS) (rs' : mRS) (b : mAS) : Prop := rs.1 = 0 ∧ rs.2.1 = rs'.2.1 ∧ cur f g n rs ∧ AR a b ∧ LR (a.2.2.2.2.2.2.2.2.2.2.2.2.1) rs'.2.2.2.2.1 (b.2.2.2.2.2.2.2.1) (b.2.2.2.2.2.2.2.2.1)
def STO (f g : Nat → Int32) (n : Nat) (r0 : mRS) (x : rRS × aAS) (y : Int32 × mRS × mAS) : Prop :=
  (x.1.1 = 0 ∧ ¬ y.1 = 0 ∧ SR f g n x.1 x.2 y.2.1 y.2.2 ∧ ts g n r0.2.1 < ts g n y.2.1.2.1) ∨ (¬ x.1.1 = 0 ∧ y.1 = 0 ∧ y.2.1.1 = x.1.1)
section ST
variable {f g : Nat → Int32} {n : Nat}
theorem c_add {x y : Nat} (h : x + y < 1000) {c : Int32} (e : nI x = c) : (c + nI y).toNatClampNeg = x + y := by
  rw [← e, nI_add, nI_clamp (by omega)]
theorem s_thought (hfg : ∀ k, k < n → f k = g k) (hn : n ≤ 1000) {rs : rRS} {rs' : mRS} {a : aAS} {b : mAS} (hA : aOK a) (hS : SR f g n rs a rs' b) (hlt : ts g n rs'.2.1 < n) :
    STO f g n rs' (F_readThought f n rs a) (F_m_readsThought g n rs' b) := by
  obtain ⟨h0, hp, hc, hR, hL⟩ := hS
  have hT : (a.2.2.2.2.2.2.2.1) ≤ 8 := hA.1
  unfold F_readThought F_m_readsThought
  by_cases h8 : (a.2.2.2.2.2.2.2.1) < 8
  · have c8 : nI (a.2.2.2.2.2.2.2.1) < 8 := nI_lt h8 (by decide)
    have m8 : ¬ 8 + b.1 5 = 16 := by
      rw [hR.1, show (8 : Int32) = nI 8 from rfl, nI_add]
      intro e
      have := (nI_eq (by omega) (by decide)).mp (e.trans (show (16 : Int32) = nI 16 from rfl))
      omega
    rw [if_pos c8, if_neg m8]
    have hpa : te f n rs.2.1 = te g n rs'.2.1 := by rw [hp, te_same hfg]
    rcases o_new hfg hn (rs := av f n rs) (rs' := mv g n rs') hA hR h0 hpa (cur_av hfg) with ⟨a1, a2, a3, a4, a5, a6, a7⟩ | ⟨a1, a2, a3⟩
    · rw [if_neg a2]
      rcases o_both hfg hn (lo := 0) (hi := 20) (i := 3) (c := 12532058) (by decide) (by decide) (by decide) a1 a3 with ⟨b1, b2, b3, b4, b5, b6⟩ | ⟨b1, b2, b3⟩
      · rw [if_neg b2]
        rcases o_both hfg hn (lo := 0) (hi := 6) (i := 4) (c := 316163) (by decide) (by decide) (by decide) b1 b3 with ⟨c1, c2, c3, c4, c5, c6⟩ | ⟨c1, c2, c3⟩
        · rw [if_neg c2]
          rcases o_close hfg hn c1 c3 with ⟨d1, d2, d3, d4, d5, d6⟩ | ⟨d1, d2, d3⟩
          · rw [if_pos d1]
            refine .inl ⟨d1, d2, ⟨d1, d3, d4, ?_, ?_⟩, ?_⟩
            · unfold F_addThought
              rw [if_neg (show ¬ 8 ≤ nI (a.2.2.2.2.2.2.2.1) from Int32.not_le.mpr c8), nI_clamp (by omega)]
              have ei : (8 + b.1 5).toNatClampNeg = 8 + (a.2.2.2.2.2.2.2.1) := by rw [hR.1]; exact c_add (by omega) rfl
              rw [ei]
              refine ⟨?_, hR.2.1, fun i hi => ?_, hR.2.2.2.1, fun i hi => ?_⟩
              · show b.1 5 + 1 = nI ((a.2.2.2.2.2.2.2.1) + 1)
                rw [hR.1]; exact nI_1 _
              · have hi : i < (a.2.2.2.2.2.2.2.1) + 1 := hi
                show nR (if i = (a.2.2.2.2.2.2.2.1) then _ else a.1 i) (if 8 + i = 8 + (a.2.2.2.2.2.2.2.1) then _ else b.2.1 (8 + i))
                by_cases e : i = (a.2.2.2.2.2.2.2.1)
                · rw [if_pos e, if_pos (by omega)]
                  have e9 : (F_m_needsBoth g n (F_m_needsBoth g n (F_m_needsNew g n (mv g n rs') b).2 12532058 0 20).2 316163 0 6).2.2.2.2.1 = (F_m_needsNew g n (mv g n rs') b).2.2.2.2.1 := by rw [c6, b6]
                  rw [e9]
                  exact a7
                · rw [if_neg e, if_neg (by omega)]
                  exact hR.2.2.1 i (by omega)
              · have hi : i < (a.2.2.2.2.2.2.2.1) + 1 := hi
                show (if i = (a.2.2.2.2.2.2.2.1) then (0 : Int32) else (a.2.2.2.1) i) = (if 8 + i = 8 + (a.2.2.2.2.2.2.2.1) then (0 : Int32) else (b.2.2.2.2.2.1) (8 + i))
                by_cases e : i = (a.2.2.2.2.2.2.2.1)
                · rw [if_pos e, if_pos (by omega)]
                · rw [if_neg e, if_neg (by omega)]
                  exact hR.2.2.2.2 i (by omega)
            · have e : (F_m_closes g n (F_m_needsBoth g n (F_m_needsBoth g n (F_m_needsNew g n (mv g n rs') b).2 12532058 0 20).2 316163 0 6).2).2.2.2.2.2.1 = rs'.2.2.2.2.1 := by
                rw [d6, c6, b6, a6]
                rfl
              unfold F_addThought
              rw [if_neg (show ¬ 8 ≤ nI (a.2.2.2.2.2.2.2.1) from Int32.not_le.mpr c8)]
              show LR (a.2.2.2.2.2.2.2.2.2.2.2.2.1) _ (b.2.2.2.2.2.2.2.1) (b.2.2.2.2.2.2.2.2.1)
              rw [e]
              exact hL
            · have h9 := ts_adv hlt
              have a5 : ts g n (te g n rs'.2.1) ≤ _ := a5
              show ts g n rs'.2.1 < ts g n (F_m_closes g n (F_m_needsBoth g n (F_m_needsBoth g n (F_m_needsNew g n (mv g n rs') b).2 12532058 0 20).2 316163 0 6).2).2.2.1
              omega
          · rw [if_neg d1]
            exact .inr ⟨d1, d2, d3⟩
        · rw [ps_f c1, if_neg c1, if_pos c2]
          exact .inr ⟨c1, rfl, c3⟩
      · rw [pw_f b1, nw_f b1, ps_f b1, if_neg b1, if_pos b2]
        exact .inr ⟨b1, rfl, b3⟩
    · rw [pw_f a1, nw_f a1, pw_f a1, nw_f a1, ps_f a1, if_neg a1, if_pos a2]
      exact .inr ⟨a1, rfl, a3⟩
  · have e8 : (a.2.2.2.2.2.2.2.1) = 8 := by omega
    have c8 : ¬ nI (a.2.2.2.2.2.2.2.1) < 8 := by rw [e8]; decide
    have m8 : 8 + b.1 5 = 16 := by rw [hR.1, e8]; decide
    rw [if_neg c8, if_pos m8]
    rcases o_fail (r0 := rs') (K := True) hfg hn (k := 5) h0 hp (by decide) (by decide) with ⟨a1, _⟩ | h
    · exact absurd a1 (fl_ne hn (by decide) (by decide))
    · exact .inr h
end ST

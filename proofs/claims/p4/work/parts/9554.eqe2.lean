/-! E: the descent of the class against the model's stack -/
def opO (b : mAS) : Nat → Int32 := (b.2.2.2.2.2.2.2.2.2.2.1)
def opC (b : mAS) : Nat → Int32 := (b.2.2.2.2.2.2.2.2.2.2.2)
def cmU (b : mAS) (d : Nat) (v : Int32) : mAS := ((b.1), (b.2.1), (b.2.2.1), (b.2.2.2.1), (b.2.2.2.2.1), (b.2.2.2.2.2.1), (b.2.2.2.2.2.2.1), (b.2.2.2.2.2.2.2.1), (b.2.2.2.2.2.2.2.2.1), (b.2.2.2.2.2.2.2.2.2.1), (b.2.2.2.2.2.2.2.2.2.2.1), upd (b.2.2.2.2.2.2.2.2.2.2.2) ((nI d) : Int32).toNatClampNeg v)
def opU (b : mAS) (d : Nat) (u v : Int32) : mAS := ((b.1), (b.2.1), (b.2.2.1), (b.2.2.2.1), (b.2.2.2.2.1), (b.2.2.2.2.2.1), (b.2.2.2.2.2.2.1), (b.2.2.2.2.2.2.2.1), (b.2.2.2.2.2.2.2.2.1), (b.2.2.2.2.2.2.2.2.2.1), upd (b.2.2.2.2.2.2.2.2.2.2.1) ((nI d) : Int32).toNatClampNeg u, upd (b.2.2.2.2.2.2.2.2.2.2.2) ((nI d) : Int32).toNatClampNeg v)
/-- all but the codes and the rows of the stack -/
def EB (b c : mAS) : Prop := (c.1) = (b.1) ∧ (c.2.1) = (b.2.1) ∧ (c.2.2.1) = (b.2.2.1) ∧ (c.2.2.2.1) = (b.2.2.2.1) ∧ (c.2.2.2.2.1) = (b.2.2.2.2.1) ∧ (c.2.2.2.2.2.1) = (b.2.2.2.2.2.1) ∧ (c.2.2.2.2.2.2.1) = (b.2.2.2.2.2.2.1) ∧ (c.2.2.2.2.2.2.2.1) = (b.2.2.2.2.2.2.2.1) ∧ (c.2.2.2.2.2.2.2.2.1) = (b.2.2.2.2.2.2.2.2.1)
def EF (g : Nat → Int32) (n d m : Nat) (r : mRS) (b : mAS) (s : mRS) (c : mAS) : Prop :=
  (s.1 = r.1 ∧ s.2.2.1 = r.2.2.1 ∧ s.2.2.2.1 = r.2.2.2.1 ∧ s.2.2.2.2.1 = r.2.2.2.2.1) ∧ r.2.2.2.2.2 ≤ s.2.2.2.2.2 ∧ ts g n r.2.1 ≤ ts g n s.2.1 ∧ EB b c ∧ (∀ i, i ≤ d → opO c i = opO b i) ∧ (∀ i, i < m → opC c i = opC b i)
def ES (g : Nat → Int32) (n : Nat) (r s : mRS) : Prop := r.2.2.2.2.2 < s.2.2.2.2.2 ∧ ts g n r.2.1 < ts g n s.2.1
/-- all of the class's abbey but the codes -/
def AFr (a c : aAS) : Prop := (c.1) = (a.1) ∧ (c.2.1) = (a.2.1) ∧ (c.2.2.1) = (a.2.2.1) ∧ (c.2.2.2.1) = (a.2.2.2.1) ∧ (c.2.2.2.2.1) = (a.2.2.2.2.1) ∧ (c.2.2.2.2.2.1) = (a.2.2.2.2.2.1) ∧ (c.2.2.2.2.2.2.2.1) = (a.2.2.2.2.2.2.2.1) ∧ (c.2.2.2.2.2.2.2.2.1) = (a.2.2.2.2.2.2.2.2.1) ∧ (c.2.2.2.2.2.2.2.2.2.1) = (a.2.2.2.2.2.2.2.2.2.1) ∧ (c.2.2.2.2.2.2.2.2.2.2.1) = (a.2.2.2.2.2.2.2.2.2.2.1) ∧ (c.2.2.2.2.2.2.2.2.2.2.2.1) = (a.2.2.2.2.2.2.2.2.2.2.2.1) ∧ (c.2.2.2.2.2.2.2.2.2.2.2.2.1) = (a.2.2.2.2.2.2.2.2.2.2.2.2.1) ∧ (c.2.2.2.2.2.2.2.2.2.2.2.2.2.2.1) = (a.2.2.2.2.2.2.2.2.2.2.2.2.2.2.1) ∧ (c.2.2.2.2.2.2.2.2.2.2.2.2.2.2.2.1) = (a.2.2.2.2.2.2.2.2.2.2.2.2.2.2.2.1) ∧ (c.2.2.2.2.2.2.2.2.2.2.2.2.2.2.2.2.1) = (a.2.2.2.2.2.2.2.2.2.2.2.2.2.2.2.2.1) ∧ (c.2.2.2.2.2.2.2.2.2.2.2.2.2.2.2.2.2) = (a.2.2.2.2.2.2.2.2.2.2.2.2.2.2.2.2.2)
theorem AFr_refl {a : aAS} : AFr a a := ⟨rfl, rfl, rfl, rfl, rfl, rfl, rfl, rfl, rfl, rfl, rfl, rfl, rfl, rfl, rfl, rfl⟩
theorem AFr_trans {a b c : aAS} (h1 : AFr a b) (h2 : AFr b c) : AFr a c := ⟨h2.1.trans h1.1, h2.2.1.trans h1.2.1, h2.2.2.1.trans h1.2.2.1, h2.2.2.2.1.trans h1.2.2.2.1, h2.2.2.2.2.1.trans h1.2.2.2.2.1, h2.2.2.2.2.2.1.trans h1.2.2.2.2.2.1, h2.2.2.2.2.2.2.1.trans h1.2.2.2.2.2.2.1, h2.2.2.2.2.2.2.2.1.trans h1.2.2.2.2.2.2.2.1, h2.2.2.2.2.2.2.2.2.1.trans h1.2.2.2.2.2.2.2.2.1, h2.2.2.2.2.2.2.2.2.2.1.trans h1.2.2.2.2.2.2.2.2.2.1, h2.2.2.2.2.2.2.2.2.2.2.1.trans h1.2.2.2.2.2.2.2.2.2.2.1, h2.2.2.2.2.2.2.2.2.2.2.2.1.trans h1.2.2.2.2.2.2.2.2.2.2.2.1, h2.2.2.2.2.2.2.2.2.2.2.2.2.1.trans h1.2.2.2.2.2.2.2.2.2.2.2.2.1, h2.2.2.2.2.2.2.2.2.2.2.2.2.2.1.trans h1.2.2.2.2.2.2.2.2.2.2.2.2.2.1, h2.2.2.2.2.2.2.2.2.2.2.2.2.2.2.1.trans h1.2.2.2.2.2.2.2.2.2.2.2.2.2.2.1, h2.2.2.2.2.2.2.2.2.2.2.2.2.2.2.2.trans h1.2.2.2.2.2.2.2.2.2.2.2.2.2.2.2⟩
theorem AFr_code {a : aAS} {k : Int32} : AFr a (F_addCode a k) := by
  unfold F_addCode
  split
  · exact AFr_refl
  · exact ⟨rfl, rfl, rfl, rfl, rfl, rfl, rfl, rfl, rfl, rfl, rfl, rfl, rfl, rfl, rfl, rfl⟩
theorem EB_trans {a b c : mAS} (h1 : EB a b) (h2 : EB b c) : EB a c := ⟨h2.1.trans h1.1, h2.2.1.trans h1.2.1, h2.2.2.1.trans h1.2.2.1, h2.2.2.2.1.trans h1.2.2.2.1, h2.2.2.2.2.1.trans h1.2.2.2.2.1, h2.2.2.2.2.2.1.trans h1.2.2.2.2.2.1, h2.2.2.2.2.2.2.1.trans h1.2.2.2.2.2.2.1, h2.2.2.2.2.2.2.2.1.trans h1.2.2.2.2.2.2.2.1, h2.2.2.2.2.2.2.2.2.trans h1.2.2.2.2.2.2.2.2⟩
theorem EB_refl {b : mAS} : EB b b := ⟨rfl, rfl, rfl, rfl, rfl, rfl, rfl, rfl, rfl⟩
section EE
variable {f g : Nat → Int32} {n d m : Nat}
theorem EF_refl {r : mRS} {b : mAS} : EF g n d m r b r b := ⟨⟨rfl, rfl, rfl, rfl⟩, Nat.le_refl _, Nat.le_refl _, EB_refl, fun _ _ => rfl, fun _ _ => rfl⟩
theorem EF_trans {d' m' : Nat} {r s t : mRS} {b c e : mAS} (h1 : EF g n d m r b s c) (h2 : EF g n d' m' s c t e) (hd : d ≤ d') (hm : m ≤ m') : EF g n d m r b t e := by
  obtain ⟨⟨a1, a2, a3, a4⟩, a5, a6, a7, a8, a9⟩ := h1
  obtain ⟨⟨b1, b2, b3, b4⟩, b5, b6, b7, b8, b9⟩ := h2
  exact ⟨⟨b1.trans a1, b2.trans a2, b3.trans a3, b4.trans a4⟩, Nat.le_trans a5 b5, Nat.le_trans a6 b6, EB_trans a7 b7, fun i hi => (b8 i (Nat.le_trans hi hd)).trans (a8 i hi), fun i hi => (b9 i (Nat.lt_of_lt_of_le hi hm)).trans (a9 i hi)⟩
theorem EF_weak {d' m' : Nat} {r s : mRS} {b c : mAS} (h : EF g n d' m' r b s c) (hd : d ≤ d') (hm : m ≤ m') : EF g n d m r b s c := EF_trans EF_refl h hd hm
theorem EF_pl {r : mRS} {b : mAS} {k : Int32} : EF g n d m r b (mv g n (F_m_puts g n r b k).1) (F_m_puts g n r b k).2 := ⟨⟨rfl, rfl, rfl, rfl⟩, Nat.le_succ _, ts_mono, ⟨rfl, rfl, rfl, rfl, rfl, rfl, rfl, rfl, rfl⟩, fun _ _ => rfl, fun _ _ => rfl⟩
theorem EF_cm {r : mRS} {b : mAS} {k v : Int32} (hd : d ≤ 5) : EF g n d d r b (mv g n (F_m_puts g n r b k).1) (cmU (F_m_puts g n r b k).2 d v) := by
  refine ⟨⟨rfl, rfl, rfl, rfl⟩, Nat.le_succ _, ts_mono, ⟨rfl, rfl, rfl, rfl, rfl, rfl, rfl, rfl, rfl⟩, fun _ _ => rfl, fun i hi => ?_⟩
  show (if i = ((nI d) : Int32).toNatClampNeg then v else opC b i) = opC b i
  rw [nI_clamp (by omega), if_neg (by omega)]
theorem EF_op {r : mRS} {b : mAS} {k u v : Int32} (hd : d ≤ 5) : EF g n d (d + 1) r b (mv g n (F_m_puts g n r b k).1) (opU (F_m_puts g n r b k).2 (d + 1) u v) := by
  refine ⟨⟨rfl, rfl, rfl, rfl⟩, Nat.le_succ _, ts_mono, ⟨rfl, rfl, rfl, rfl, rfl, rfl, rfl, rfl, rfl⟩, fun i hi => ?_, fun i hi => ?_⟩
  · show (if i = ((nI (d + 1)) : Int32).toNatClampNeg then u else opO b i) = opO b i
    rw [nI_clamp (by omega), if_neg (by omega)]
  · show (if i = ((nI (d + 1)) : Int32).toNatClampNeg then v else opC b i) = opC b i
    rw [nI_clamp (by omega), if_neg (by omega)]
theorem opU_o {b : mAS} {u v : Int32} (hd : d ≤ 6) : opO (opU b d u v) d = u := by
  show (if d = ((nI d) : Int32).toNatClampNeg then u else opO b d) = u
  rw [nI_clamp (by omega), if_pos rfl]
theorem opU_c {b : mAS} {u v : Int32} (hd : d ≤ 6) : opC (opU b d u v) d = v := by
  show (if d = ((nI d) : Int32).toNatClampNeg then v else opC b d) = v
  rw [nI_clamp (by omega), if_pos rfl]
theorem cmU_c {b : mAS} {v : Int32} (hd : d ≤ 6) : opC (cmU b d v) d = v := by
  show (if d = ((nI d) : Int32).toNatClampNeg then v else opC b d) = v
  rw [nI_clamp (by omega), if_pos rfl]
theorem cm_at {b : mAS} {z : Int32} (hd : d ≤ 6) (h : opC b d = z) : (b.2.2.2.2.2.2.2.2.2.2.2) ((nI d) : Int32).toNatClampNeg = z := by
  rw [nI_clamp (by omega)]
  exact h
theorem ES_pl {r : mRS} {b : mAS} {k : Int32} (h : ts g n r.2.1 < n) : ES g n r (mv g n (F_m_puts g n r b k).1) := ⟨Nat.lt_succ_self _, ts_adv h⟩
theorem ES_l {r s t : mRS} {b c : mAS} (h1 : ES g n r s) (h2 : EF g n d m s b t c) : ES g n r t := ⟨Nat.lt_of_lt_of_le h1.1 h2.2.1, Nat.lt_of_lt_of_le h1.2 h2.2.2.1⟩
theorem ES_t {r s t : mRS} (h1 : ES g n r s) (h2 : ES g n s t) : ES g n r t := ⟨Nat.lt_trans h1.1 h2.1, Nat.lt_trans h1.2 h2.2⟩
theorem popn_same {o o' : Nat → Int32} : ∀ d : Nat, (∀ i, i ≤ d → o i = o' i) → popn o d = popn o' d
  | 0, _ => rfl
  | d + 1, h => by
    show (if o (d + 1) = 1 then popn o d else d + 1) = (if o' (d + 1) = 1 then popn o' d else d + 1)
    rw [h (d + 1) (Nat.le_refl _), popn_same d (fun i hi => h i (Nat.le_succ_of_le hi))]
/-- how a piece of an E ends on both sides -/
def EO (f g : Nat → Int32) (n : Nat) (R : Int32 × mRS × mAS) (d m : Nat) (a : aAS) (r : mRS) (b : mAS) (X : rRS × aAS) (d1 : Nat) (Q : mRS → mAS → Prop) : Prop :=
  (X.1.1 = 0 ∧ AFr a X.2 ∧ cur f g n X.1 ∧ ∃ (k1 : Nat) (s : mRS) (c : mAS), R = F_m_rdl g n k1 d1 0 s c ∧ n - ts g n s.2.1 < k1 ∧ X.1.2.1 = s.2.1 ∧ EF g n d m r b s c ∧ Q s c) ∨ (¬ X.1.1 = 0 ∧ R.1 = 0 ∧ R.2.1.1 = X.1.1)
theorem EO_fail (hfg : ∀ k, k < n → f k = g k) (hn : n ≤ 1000) {R : Int32 × mRS × mAS} {a a0 : aAS} {r r0 : mRS} {b b0 : mAS} {rs : rRS} {d1 : Nat} {Q : mRS → mAS → Prop} {c : Int32} (h0 : rs.1 = 0) (hp : rs.2.1 = r.2.1) (h1 : 0 < c.toInt) (h2 : c.toInt ≤ 5) (hR : R = (0, F_m_fails g n r c, b)) : EO f g n R d m a0 r0 b0 (F_fail f n rs c, a) d1 Q := by
  refine .inr ⟨fl_ne hn h1 h2, by rw [hR], ?_⟩
  rw [hR]
  show c + 16 * nI (ts g n r.2.1) = (F_fail f n rs c).1
  rw [fail_0 h0, hp, ts_same hfg]
theorem EO_pre {R R0 : Int32 × mRS × mAS} {a a1 : aAS} {r r1 : mRS} {b b1 : mAS} {X : rRS × aAS} {d1 d2 m2 : Nat} {Q Q' : mRS → mAS → Prop} (h : EO f g n R d2 m2 a1 r1 b1 X d1 Q') (hR : R0 = R) (ha : AFr a a1) (he : EF g n d m r b r1 b1) (hd : d ≤ d2) (hm : m ≤ m2) (hQ : ∀ s c, EF g n d2 m2 r1 b1 s c → Q' s c → Q s c) : EO f g n R0 d m a r b X d1 Q := by
  rw [hR]
  rcases h with ⟨i1, i2, i3, k1, s, c, i4, i5, i6, i7, i8⟩ | h
  · exact .inl ⟨i1, AFr_trans ha i2, i3, k1, s, c, i4, i5, i6, EF_trans he i7 hd hm, hQ s c i7 i8⟩
  · exact .inr h
theorem tk_w {p : Nat} (hfg : ∀ k, k < n → f k = g k) (h : ¬ tw f n p = 0) : tk f n p = 1 := by
  rcases tcase hfg p with ⟨_, b, _⟩ | ⟨a, _⟩ | ⟨_, b, _, _⟩ | ⟨_, b, _, _⟩ | ⟨_, b, _⟩
  · exact absurd b h
  · exact a
  · exact absurd b h
  · exact absurd b h
  · exact absurd b h
theorem tw_k {p : Nat} (hfg : ∀ k, k < n → f k = g k) (h : ¬ tk f n p = 1) : tw f n p = 0 := by
  by_cases e : tw f n p = 0
  · exact e
  · exact absurd (tk_w hfg e) h
section TOK
variable {r : mRS}
theorem sg0 (hfg : ∀ k, k < n → f k = g k) (hn : n ≤ 1000) {c : Int32} (hc : isS c = true) (h : ¬ tk f n r.2.1 = c) : F_m_isSign g n r c = 0 := by rw [s_eq hfg hn hc, if_neg h]
theorem sg1 (hfg : ∀ k, k < n → f k = g k) (hn : n ≤ 1000) {c : Int32} (hc : isS c = true) (h : tk f n r.2.1 = c) : ¬ F_m_isSign g n r c = 0 := by rw [s_eq hfg hn hc, if_pos h]; decide
theorem wd0 (hfg : ∀ k, k < n → f k = g k) {i : Nat} {x : Int64} (h2 : 2 ≤ i) (hi : i < 26) (hx : w27.getD i 0 = x) (h : ¬ tw f n r.2.1 = i) : F_m_isWord g n r x = 0 := by rw [← hx, w_eq hfg h2 hi, if_neg h]
theorem wd1 (hfg : ∀ k, k < n → f k = g k) {i : Nat} {x : Int64} (h2 : 2 ≤ i) (hi : i < 26) (hx : w27.getD i 0 = x) (h : tw f n r.2.1 = i) : ¬ F_m_isWord g n r x = 0 := by rw [← hx, w_eq hfg h2 hi, if_pos h]; decide
theorem fctp (h : ¬ F_m_fact g n r = 0) : ¬ F_m_fact g n r ≤ 0 := by
  have h9 : F_m_fact g n r = 0 ∨ F_m_fact g n r = 1 ∨ F_m_fact g n r = 2 ∨ F_m_fact g n r = 3 ∨ F_m_fact g n r = 4 := by
    unfold F_m_fact
    repeat' split
    all_goals first | exact .inl rfl | exact .inr (.inl rfl) | exact .inr (.inr (.inl rfl)) | exact .inr (.inr (.inr (.inl rfl))) | exact .inr (.inr (.inr (.inr rfl)))
  rcases h9 with e | e | e | e | e
  · exact absurd e h
  · rw [e]; decide
  · rw [e]; decide
  · rw [e]; decide
  · rw [e]; decide
end TOK
theorem nI5 (hd : d < 5) : ¬ nI d = 5 := fun h => by
  have := (nI_eq (by omega) (by decide)).mp (h.trans (show (5 : Int32) = nI 5 from rfl))
  omega
theorem nI0 (hd : d ≤ 5) (h0 : ¬ d = 0) : ¬ nI d = 0 := fun h => by
  have := (nI_eq (by omega) (by decide)).mp (h.trans (show (0 : Int32) = nI 0 from rfl))
  omega
/-- a token that can't stand behind a whole E -/
theorem rd_bad (hfg : ∀ k, k < n → f k = g k) (hn : n ≤ 1000) {k : Nat} {r : mRS} {b : mAS} (hd : d ≤ 5) (h42 : ¬ tk f n r.2.1 = 42) (h43 : ¬ tk f n r.2.1 = 43) (h45 : ¬ tk f n r.2.1 = 45) (h60 : tk f n r.2.1 = 60 → ¬ opC b d = 0) (h61 : tk f n r.2.1 = 61 → ¬ opC b d = 0) (w20 : ¬ tw f n r.2.1 = 20) (w21 : ¬ tw f n r.2.1 = 21) (h41 : tk f n r.2.1 = 41 → d = 0) (h59 : tk f n r.2.1 = 59 → ¬ d = 0) : F_m_rdl g n (k + 1) d 0 r b = (0, F_m_fails g n r 1, b) := by
  have s42 := sg0 (r := r) hfg hn (c := 42) (by decide) h42
  have s43 := sg0 (r := r) hfg hn (c := 43) (by decide) h43
  have s45 := sg0 (r := r) hfg hn (c := 45) (by decide) h45
  have v20 := wd0 (r := r) hfg (i := 20) (x := 1111) (by decide) (by decide) (by decide) w20
  have v21 := wd0 (r := r) hfg (i := 21) (x := 423) (by decide) (by decide) (by decide) w21
  have ne : ∀ {c c' : Int32}, tk f n r.2.1 = c → ¬ c = c' → ¬ tk f n r.2.1 = c' := fun h1 h2 h3 => h2 (h1.symm.trans h3)
  by_cases t60 : tk f n r.2.1 = 60
  · have s60 := sg1 (r := r) hfg hn (c := 60) (by decide) t60
    have s41 := sg0 (r := r) hfg hn (c := 41) (by decide) (ne t60 (by decide))
    have s59 := sg0 (r := r) hfg hn (c := 59) (by decide) (ne t60 (by decide))
    have hc : ¬ (b.2.2.2.2.2.2.2.2.2.2.2) ((nI d) : Int32).toNatClampNeg = 0 := fun h => h60 t60 (by rw [nI_clamp (by omega)] at h; exact h)
    by_cases hd0 : d = 0
    · exact rd_bl0 rfl s43 s45 s42 s60 hc v20 v21 s41 (by rw [hd0]; rfl) s59
    · exact rd_bl1 rfl s43 s45 s42 s60 hc v20 v21 s41 (nI0 hd hd0)
  · have s60 := sg0 (r := r) hfg hn (c := 60) (by decide) t60
    by_cases t61 : tk f n r.2.1 = 61
    · have s61 := sg1 (r := r) hfg hn (c := 61) (by decide) t61
      have s41 := sg0 (r := r) hfg hn (c := 41) (by decide) (ne t61 (by decide))
      have s59 := sg0 (r := r) hfg hn (c := 59) (by decide) (ne t61 (by decide))
      have hc : ¬ (b.2.2.2.2.2.2.2.2.2.2.2) ((nI d) : Int32).toNatClampNeg = 0 := fun h => h61 t61 (by rw [nI_clamp (by omega)] at h; exact h)
      by_cases hd0 : d = 0
      · exact rd_be0 rfl s43 s45 s42 s60 s61 hc v20 v21 s41 (by rw [hd0]; rfl) s59
      · exact rd_be1 rfl s43 s45 s42 s60 s61 hc v20 v21 s41 (nI0 hd hd0)
    · have s61 := sg0 (r := r) hfg hn (c := 61) (by decide) t61
      by_cases t41 : tk f n r.2.1 = 41
      · have s41 := sg1 (r := r) hfg hn (c := 41) (by decide) t41
        have s59 := sg0 (r := r) hfg hn (c := 59) (by decide) (ne t41 (by decide))
        have hd0 := h41 t41
        exact rd_bc0 rfl s43 s45 s42 s60 s61 v20 v21 s41 (by rw [hd0]; decide) (by rw [hd0]; rfl) s59
      · have s41 := sg0 (r := r) hfg hn (c := 41) (by decide) t41
        by_cases hd0 : d = 0
        · have s59 := sg0 (r := r) hfg hn (c := 59) (by decide) (fun h => h59 h hd0)
          exact rd_bo0 rfl s43 s45 s42 s60 s61 v20 v21 s41 (by rw [hd0]; rfl) s59
        · exact rd_bo1 rfl s43 s45 s42 s60 s61 v20 v21 s41 (nI0 hd hd0)
theorem op_lev {rs : rRS} : F_levelOf (F_operationHere f n rs) = (if tk f n rs.2.1 = 42 then 3 else (if tk f n rs.2.1 = 43 then 2 else (if tk f n rs.2.1 = 45 then 2 else (if tk f n rs.2.1 = 60 then 1 else (if tk f n rs.2.1 = 61 then 1 else (if tw f n rs.2.1 = 20 then 0 else (if tw f n rs.2.1 = 21 then 0 else (-1)))))))) := by
  unfold F_operationHere
  by_cases h0 : tk f n rs.2.1 = 42
  · rw [if_pos h0, if_pos h0]; decide
  · rw [if_neg h0, if_neg h0]
    by_cases h1 : tk f n rs.2.1 = 43
    · rw [if_pos h1, if_pos h1]; decide
    · rw [if_neg h1, if_neg h1]
      by_cases h2 : tk f n rs.2.1 = 45
      · rw [if_pos h2, if_pos h2]; decide
      · rw [if_neg h2, if_neg h2]
        by_cases h3 : tk f n rs.2.1 = 60
        · rw [if_pos h3, if_pos h3]; decide
        · rw [if_neg h3, if_neg h3]
          by_cases h4 : tk f n rs.2.1 = 61
          · rw [if_pos h4, if_pos h4]; decide
          · rw [if_neg h4, if_neg h4]
            by_cases h5 : tw f n rs.2.1 = 20
            · rw [if_pos h5, if_pos h5, h5]; decide
            · rw [if_neg h5, if_neg h5]
              by_cases h6 : tw f n rs.2.1 = 21
              · rw [if_pos h6, if_pos h6, h6]; decide
              · rw [if_neg h6, if_neg h6]
                decide
/-- the sides' simulations: a PART; the levels -/
def PS (f g : Nat → Int32) (n d : Nat) (P : rRS → aAS → rRS × aAS) : Prop := ∀ (rs : rRS) (a : aAS) (r : mRS) (b : mAS) (k : Nat), rs.1 = 0 → rs.2.1 = r.2.1 → cur f g n rs → n - ts g n r.2.1 < k → EO f g n (F_m_rdl g n k d 1 r b) d (d + 1) a r b (P rs a) (popn (opO b) d) (fun s _ => ES g n r s)
def LG (f g : Nat → Int32) (n d m : Nat) (pre : mAS → Prop) (N : mRS → mAS → Prop) (G : rRS → aAS → rRS × aAS) : Prop := ∀ (rs : rRS) (a : aAS) (r : mRS) (b : mAS) (k : Nat), rs.1 = 0 → rs.2.1 = r.2.1 → cur f g n rs → n - ts g n r.2.1 < k → popn (opO b) d = d → pre b → EO f g n (F_m_rdl g n k d 1 r b) d m a r b (G rs a) d (fun s c => ES g n r s ∧ N s c)
def N3 (f : Nat → Int32) (n : Nat) (s : mRS) : Prop := ¬ tk f n s.2.1 = 42
def N2 (f : Nat → Int32) (n : Nat) (s : mRS) : Prop := ¬ tk f n s.2.1 = 42 ∧ ¬ tk f n s.2.1 = 43 ∧ ¬ tk f n s.2.1 = 45
def N1 (f : Nat → Int32) (n d : Nat) (s : mRS) (c : mAS) : Prop := N2 f n s ∧ (tk f n s.2.1 = 60 → ¬ opC c d = 0) ∧ (tk f n s.2.1 = 61 → ¬ opC c d = 0)
def N0 (f : Nat → Int32) (n d : Nat) (s : mRS) (c : mAS) : Prop := N1 f n d s c ∧ ¬ tw f n s.2.1 = 20 ∧ ¬ tw f n s.2.1 = 21
theorem lev4_sim {P : rRS → aAS → rRS × aAS} (hP : PS f g n d P) : LG f g n d (d + 1) (fun _ => True) (fun _ _ => True) (F_lev4 P) := by
  intro rs a r b k h0 hp hc hk hpop _
  have h := hP rs a r b k h0 hp hc hk
  rw [hpop] at h
  unfold F_lev4
  rw [if_pos h0]
  exact EO_pre h rfl AFr_refl EF_refl (Nat.le_refl _) (Nat.le_refl _) (fun s c _ hq => ⟨hq, trivial⟩)
theorem n_lt {p q K : Nat} (hn : n ≤ K) (h : ts g n p < ts g n q) : n - ts g n q < K := by
  have := ts_le (f := g) (n := n) (p := q)
  omega
theorem lvl3_f {G : rRS → aAS → rRS × aAS} {rs : rRS} {a : aAS} (h : ¬ rs.1 = 0) : ∀ K : Nat, F_lvl3 f n G K rs a = (rs, a)
  | 0 => rfl
  | K + 1 => by rw [F_lvl3_s, if_neg h]
theorem lvl3_sim (hfg : ∀ k, k < n → f k = g k) (hn : n ≤ 1000) {G : rRS → aAS → rRS × aAS} (hd : d ≤ 5) (hG : LG f g n d (d + 1) (fun _ => True) (fun _ _ => True) G) : ∀ (K : Nat) (rs : rRS) (a : aAS) (r : mRS) (b : mAS) (k : Nat), n - ts g n r.2.1 < K → rs.1 = 0 → rs.2.1 = r.2.1 → cur f g n rs → n - ts g n r.2.1 < k → popn (opO b) d = d → True → EO f g n (F_m_rdl g n k d 0 r b) d (d + 1) a r b (F_lvl3 f n G K rs a) d (fun s _ => N3 f n s)
  | 0, rs, a, r, b, k, hK, h0, hp, hc, hk, hpop, hN => absurd hK (Nat.not_lt_zero _)
  | K + 1, rs, a, r, b, k, hK, h0, hp, hc, hk, hpop, hN => by
    have hlv := op_lev (f := f) (n := n) (rs := rs)
    rw [hp] at hlv
    rw [F_lvl3_s, if_pos h0]
    have hpa : te f n rs.2.1 = te g n r.2.1 := by rw [hp, te_same hfg]
    have ne : ∀ {c c' : Int32}, tk f n r.2.1 = c → ¬ c = c' → ¬ tk f n r.2.1 = c' := fun h1 h2 h3 => h2 (h1.symm.trans h3)
    obtain ⟨k, rfl⟩ : ∃ j, k = j + 1 := ⟨k - 1, by omega⟩
    by_cases h42 : tk f n r.2.1 = 42
    · have hl9 : F_levelOf (F_operationHere f n rs) = 3 := by rw [hlv, if_pos h42]
      rw [if_pos hl9]
      have hlt : ts g n r.2.1 < n := lt_sign (x := 42) (sg1 hfg hn (by decide) h42)
      have hrd : F_m_rdl g n (k + 1) d 0 r b = F_m_rdl g n k d 1 (mv g n (F_m_puts g n r b 22).1) (F_m_puts g n r b 22).2 := rd_tms rfl (sg0 hfg hn (by decide) (ne h42 (by decide))) (sg0 hfg hn (by decide) (ne h42 (by decide))) (sg1 hfg hn (by decide) h42)
      have e1 : EF g n d (d + 1) r b (mv g n (F_m_puts g n r b 22).1) (F_m_puts g n r b 22).2 := EF_pl
      have hpop1 : popn (opO (F_m_puts g n r b 22).2) d = d := (popn_same d e1.2.2.2.2.1).trans hpop
      rcases hG (av f n rs) a (mv g n (F_m_puts g n r b 22).1) (F_m_puts g n r b 22).2 k h0 hpa (cur_av hfg) (hk_step hlt hk) hpop1 trivial with ⟨i1, i2, i3, k1, s, c, i4, i5, i6, i7, i8, i9⟩ | ⟨i1, i2, i3⟩
      · have e2 : EF g n d (d + 1) r b s c := EF_trans e1 i7 (Nat.le_refl _) (Nat.le_refl _)
        have hts : ts g n r.2.1 < ts g n s.2.1 := Nat.lt_of_le_of_lt ts_mono i8.2
        have hs9 : ts g n s.2.1 ≤ n := ts_le
        exact EO_pre (lvl3_sim hfg hn hd hG K _ _ s c k1 (by omega) i1 i6 i3 i5 ((popn_same d e2.2.2.2.2.1).trans hpop) trivial) (hrd.trans i4) (AFr_trans i2 AFr_code) e2 (Nat.le_refl _) (Nat.le_refl _) (fun _ _ _ hq => hq)
      · rw [lvl3_f i1 K]
        rw [← hrd] at i2 i3
        exact .inr ⟨i1, i2, i3⟩
    · skip
      have hno : ¬ F_levelOf (F_operationHere f n rs) = 3 := by
        rw [hlv, if_neg h42]
        repeat' split
        all_goals decide
      rw [if_neg hno]
      exact .inl ⟨h0, AFr_refl, hc, k + 1, r, b, rfl, hk, hp, EF_refl, h42⟩
theorem lev3_sim (hfg : ∀ k, k < n → f k = g k) (hn : n ≤ 1000) {G : rRS → aAS → rRS × aAS} (hd : d ≤ 5) (hG : LG f g n d (d + 1) (fun _ => True) (fun _ _ => True) G) : LG f g n d (d + 1) (fun _ => True) (fun s _ => N3 f n s) (F_lev3 f n G) := by
  intro rs a r b k h0 hp hc hk hpop hpre
  unfold F_lev3
  rw [if_pos h0]
  rcases hG rs a r b k h0 hp hc hk hpop trivial with ⟨i1, i2, i3, k1, s, c, i4, i5, i6, i7, i8, i9⟩ | ⟨i1, i2, i3⟩
  · exact EO_pre (lvl3_sim hfg hn hd hG 1000 _ _ s c k1 (n_lt hn i8.2) i1 i6 i3 i5 ((popn_same d i7.2.2.2.2.1).trans hpop) trivial) i4 i2 (EF_weak i7 (Nat.le_refl _) (by omega)) (Nat.le_refl _) (Nat.le_refl _) (fun t e h1 hq => ⟨ES_l i8 h1, hq⟩)
  · rw [lvl3_f i1 1000]
    exact .inr ⟨i1, i2, i3⟩
theorem lvl2_f {G : rRS → aAS → rRS × aAS} {rs : rRS} {a : aAS} (h : ¬ rs.1 = 0) : ∀ K : Nat, F_lvl2 f n G K rs a = (rs, a)
  | 0 => rfl
  | K + 1 => by rw [F_lvl2_s, if_neg h]
theorem lvl2_sim (hfg : ∀ k, k < n → f k = g k) (hn : n ≤ 1000) {G : rRS → aAS → rRS × aAS} (hd : d ≤ 5) (hG : LG f g n d (d + 1) (fun _ => True) (fun s _ => N3 f n s) G) : ∀ (K : Nat) (rs : rRS) (a : aAS) (r : mRS) (b : mAS) (k : Nat), n - ts g n r.2.1 < K → rs.1 = 0 → rs.2.1 = r.2.1 → cur f g n rs → n - ts g n r.2.1 < k → popn (opO b) d = d → N3 f n r → EO f g n (F_m_rdl g n k d 0 r b) d (d + 1) a r b (F_lvl2 f n G K rs a) d (fun s _ => N2 f n s)
  | 0, rs, a, r, b, k, hK, h0, hp, hc, hk, hpop, hN => absurd hK (Nat.not_lt_zero _)
  | K + 1, rs, a, r, b, k, hK, h0, hp, hc, hk, hpop, hN => by
    have hlv := op_lev (f := f) (n := n) (rs := rs)
    rw [hp] at hlv
    rw [F_lvl2_s, if_pos h0]
    have hpa : te f n rs.2.1 = te g n r.2.1 := by rw [hp, te_same hfg]
    have ne : ∀ {c c' : Int32}, tk f n r.2.1 = c → ¬ c = c' → ¬ tk f n r.2.1 = c' := fun h1 h2 h3 => h2 (h1.symm.trans h3)
    obtain ⟨k, rfl⟩ : ∃ j, k = j + 1 := ⟨k - 1, by omega⟩
    by_cases h43 : tk f n r.2.1 = 43
    · have hl9 : F_levelOf (F_operationHere f n rs) = 2 := by rw [hlv, if_neg (ne h43 (by decide)), if_pos h43]
      rw [if_pos hl9]
      have hlt : ts g n r.2.1 < n := lt_sign (x := 43) (sg1 hfg hn (by decide) h43)
      have hrd : F_m_rdl g n (k + 1) d 0 r b = F_m_rdl g n k d 1 (mv g n (F_m_puts g n r b 20).1) (F_m_puts g n r b 20).2 := rd_pls rfl (sg1 hfg hn (by decide) h43)
      have e1 : EF g n d (d + 1) r b (mv g n (F_m_puts g n r b 20).1) (F_m_puts g n r b 20).2 := EF_pl
      have hpop1 : popn (opO (F_m_puts g n r b 20).2) d = d := (popn_same d e1.2.2.2.2.1).trans hpop
      rcases hG (av f n rs) a (mv g n (F_m_puts g n r b 20).1) (F_m_puts g n r b 20).2 k h0 hpa (cur_av hfg) (hk_step hlt hk) hpop1 trivial with ⟨i1, i2, i3, k1, s, c, i4, i5, i6, i7, i8, i9⟩ | ⟨i1, i2, i3⟩
      · have e2 : EF g n d (d + 1) r b s c := EF_trans e1 i7 (Nat.le_refl _) (Nat.le_refl _)
        have hts : ts g n r.2.1 < ts g n s.2.1 := Nat.lt_of_le_of_lt ts_mono i8.2
        have hs9 : ts g n s.2.1 ≤ n := ts_le
        exact EO_pre (lvl2_sim hfg hn hd hG K _ _ s c k1 (by omega) i1 i6 i3 i5 ((popn_same d e2.2.2.2.2.1).trans hpop) i9) (hrd.trans i4) (AFr_trans i2 AFr_code) e2 (Nat.le_refl _) (Nat.le_refl _) (fun _ _ _ hq => hq)
      · rw [lvl2_f i1 K]
        rw [← hrd] at i2 i3
        exact .inr ⟨i1, i2, i3⟩
    · skip
      by_cases h45 : tk f n r.2.1 = 45
      · have hl9 : F_levelOf (F_operationHere f n rs) = 2 := by rw [hlv, if_neg (ne h45 (by decide)), if_neg (ne h45 (by decide)), if_pos h45]
        rw [if_pos hl9]
        have hlt : ts g n r.2.1 < n := lt_sign (x := 45) (sg1 hfg hn (by decide) h45)
        have hrd : F_m_rdl g n (k + 1) d 0 r b = F_m_rdl g n k d 1 (mv g n (F_m_puts g n r b 21).1) (F_m_puts g n r b 21).2 := rd_mns rfl (sg0 hfg hn (by decide) (ne h45 (by decide))) (sg1 hfg hn (by decide) h45)
        have e1 : EF g n d (d + 1) r b (mv g n (F_m_puts g n r b 21).1) (F_m_puts g n r b 21).2 := EF_pl
        have hpop1 : popn (opO (F_m_puts g n r b 21).2) d = d := (popn_same d e1.2.2.2.2.1).trans hpop
        rcases hG (av f n rs) a (mv g n (F_m_puts g n r b 21).1) (F_m_puts g n r b 21).2 k h0 hpa (cur_av hfg) (hk_step hlt hk) hpop1 trivial with ⟨i1, i2, i3, k1, s, c, i4, i5, i6, i7, i8, i9⟩ | ⟨i1, i2, i3⟩
        · have e2 : EF g n d (d + 1) r b s c := EF_trans e1 i7 (Nat.le_refl _) (Nat.le_refl _)
          have hts : ts g n r.2.1 < ts g n s.2.1 := Nat.lt_of_le_of_lt ts_mono i8.2
          have hs9 : ts g n s.2.1 ≤ n := ts_le
          exact EO_pre (lvl2_sim hfg hn hd hG K _ _ s c k1 (by omega) i1 i6 i3 i5 ((popn_same d e2.2.2.2.2.1).trans hpop) i9) (hrd.trans i4) (AFr_trans i2 AFr_code) e2 (Nat.le_refl _) (Nat.le_refl _) (fun _ _ _ hq => hq)
        · rw [lvl2_f i1 K]
          rw [← hrd] at i2 i3
          exact .inr ⟨i1, i2, i3⟩
      · skip
        have hno : ¬ F_levelOf (F_operationHere f n rs) = 2 := by
          rw [hlv, if_neg hN, if_neg h43, if_neg h45]
          repeat' split
          all_goals decide
        rw [if_neg hno]
        exact .inl ⟨h0, AFr_refl, hc, k + 1, r, b, rfl, hk, hp, EF_refl, ⟨hN, h43, h45⟩⟩
theorem lev2_sim (hfg : ∀ k, k < n → f k = g k) (hn : n ≤ 1000) {G : rRS → aAS → rRS × aAS} (hd : d ≤ 5) (hG : LG f g n d (d + 1) (fun _ => True) (fun s _ => N3 f n s) G) : LG f g n d (d + 1) (fun _ => True) (fun s _ => N2 f n s) (F_lev2 f n G) := by
  intro rs a r b k h0 hp hc hk hpop hpre
  unfold F_lev2
  rw [if_pos h0]
  rcases hG rs a r b k h0 hp hc hk hpop trivial with ⟨i1, i2, i3, k1, s, c, i4, i5, i6, i7, i8, i9⟩ | ⟨i1, i2, i3⟩
  · exact EO_pre (lvl2_sim hfg hn hd hG 1000 _ _ s c k1 (n_lt hn i8.2) i1 i6 i3 i5 ((popn_same d i7.2.2.2.2.1).trans hpop) i9) i4 i2 (EF_weak i7 (Nat.le_refl _) (by omega)) (Nat.le_refl _) (Nat.le_refl _) (fun t e h1 hq => ⟨ES_l i8 h1, hq⟩)
  · rw [lvl2_f i1 1000]
    exact .inr ⟨i1, i2, i3⟩
theorem lvl1_f {G : rRS → aAS → rRS × aAS} {rs : rRS} {a : aAS} (h : ¬ rs.1 = 0) : ∀ K : Nat, F_lvl1 f n G K rs a = (rs, a)
  | 0 => rfl
  | K + 1 => by rw [F_lvl1_s, if_neg h]
theorem lvl1_sim (hfg : ∀ k, k < n → f k = g k) (hn : n ≤ 1000) {G : rRS → aAS → rRS × aAS} (hd : d ≤ 5) (hG : LG f g n d (d + 1) (fun _ => True) (fun s _ => N2 f n s) G) : ∀ (K : Nat) (rs : rRS) (a : aAS) (r : mRS) (b : mAS) (k : Nat), n - ts g n r.2.1 < K → rs.1 = 0 → rs.2.1 = r.2.1 → cur f g n rs → n - ts g n r.2.1 < k → popn (opO b) d = d → N2 f n r ∧ opC b d = 0 → EO f g n (F_m_rdl g n k d 0 r b) d d a r b (F_lvl1 f n G K rs a) d (fun s c => N1 f n d s c)
  | 0, rs, a, r, b, k, hK, h0, hp, hc, hk, hpop, hN => absurd hK (Nat.not_lt_zero _)
  | K + 1, rs, a, r, b, k, hK, h0, hp, hc, hk, hpop, hN => by
    have hlv := op_lev (f := f) (n := n) (rs := rs)
    rw [hp] at hlv
    rw [F_lvl1_s, if_pos h0]
    have hpa : te f n rs.2.1 = te g n r.2.1 := by rw [hp, te_same hfg]
    have ne : ∀ {c c' : Int32}, tk f n r.2.1 = c → ¬ c = c' → ¬ tk f n r.2.1 = c' := fun h1 h2 h3 => h2 (h1.symm.trans h3)
    obtain ⟨k, rfl⟩ : ∃ j, k = j + 1 := ⟨k - 1, by omega⟩
    by_cases h60 : tk f n r.2.1 = 60
    · have hl9 : F_levelOf (F_operationHere f n rs) = 1 := by rw [hlv, if_neg (ne h60 (by decide)), if_neg (ne h60 (by decide)), if_neg (ne h60 (by decide)), if_pos h60]
      rw [if_pos hl9]
      have hlt : ts g n r.2.1 < n := lt_sign (x := 60) (sg1 hfg hn (by decide) h60)
      have hrd : F_m_rdl g n (k + 1) d 0 r b = F_m_rdl g n k d 1 (mv g n (F_m_puts g n r b 24).1) (cmU (F_m_puts g n r b 24).2 d 1) := rd_les rfl (sg0 hfg hn (by decide) (ne h60 (by decide))) (sg0 hfg hn (by decide) (ne h60 (by decide))) (sg0 hfg hn (by decide) (ne h60 (by decide))) (sg1 hfg hn (by decide) h60) (cm_at (by omega) hN.2)
      have e1 : EF g n d d r b (mv g n (F_m_puts g n r b 24).1) (cmU (F_m_puts g n r b 24).2 d 1) := (EF_cm hd)
      have hpop1 : popn (opO (cmU (F_m_puts g n r b 24).2 d 1)) d = d := (popn_same d e1.2.2.2.2.1).trans hpop
      rcases hG (av f n rs) a (mv g n (F_m_puts g n r b 24).1) (cmU (F_m_puts g n r b 24).2 d 1) k h0 hpa (cur_av hfg) (hk_step hlt hk) hpop1 trivial with ⟨i1, i2, i3, k1, s, c, i4, i5, i6, i7, i8, i9⟩ | ⟨i1, i2, i3⟩
      · refine .inl ⟨i1, AFr_trans i2 AFr_code, i3, k1, s, c, hrd.trans i4, i5, i6, EF_trans e1 i7 (Nat.le_refl _) (by omega), i9, fun _ => ?_, fun _ => ?_⟩
        · rw [i7.2.2.2.2.2 d (by omega), cmU_c (by omega)]; decide
        · rw [i7.2.2.2.2.2 d (by omega), cmU_c (by omega)]; decide
      · rw [← hrd] at i2 i3
        exact .inr ⟨i1, i2, i3⟩
    · skip
      by_cases h61 : tk f n r.2.1 = 61
      · have hl9 : F_levelOf (F_operationHere f n rs) = 1 := by rw [hlv, if_neg (ne h61 (by decide)), if_neg (ne h61 (by decide)), if_neg (ne h61 (by decide)), if_neg (ne h61 (by decide)), if_pos h61]
        rw [if_pos hl9]
        have hlt : ts g n r.2.1 < n := lt_sign (x := 61) (sg1 hfg hn (by decide) h61)
        have hrd : F_m_rdl g n (k + 1) d 0 r b = F_m_rdl g n k d 1 (mv g n (F_m_puts g n r b 25).1) (cmU (F_m_puts g n r b 25).2 d 1) := rd_eql rfl (sg0 hfg hn (by decide) (ne h61 (by decide))) (sg0 hfg hn (by decide) (ne h61 (by decide))) (sg0 hfg hn (by decide) (ne h61 (by decide))) (sg0 hfg hn (by decide) (ne h61 (by decide))) (sg1 hfg hn (by decide) h61) (cm_at (by omega) hN.2)
        have e1 : EF g n d d r b (mv g n (F_m_puts g n r b 25).1) (cmU (F_m_puts g n r b 25).2 d 1) := (EF_cm hd)
        have hpop1 : popn (opO (cmU (F_m_puts g n r b 25).2 d 1)) d = d := (popn_same d e1.2.2.2.2.1).trans hpop
        rcases hG (av f n rs) a (mv g n (F_m_puts g n r b 25).1) (cmU (F_m_puts g n r b 25).2 d 1) k h0 hpa (cur_av hfg) (hk_step hlt hk) hpop1 trivial with ⟨i1, i2, i3, k1, s, c, i4, i5, i6, i7, i8, i9⟩ | ⟨i1, i2, i3⟩
        · refine .inl ⟨i1, AFr_trans i2 AFr_code, i3, k1, s, c, hrd.trans i4, i5, i6, EF_trans e1 i7 (Nat.le_refl _) (by omega), i9, fun _ => ?_, fun _ => ?_⟩
          · rw [i7.2.2.2.2.2 d (by omega), cmU_c (by omega)]; decide
          · rw [i7.2.2.2.2.2 d (by omega), cmU_c (by omega)]; decide
        · rw [← hrd] at i2 i3
          exact .inr ⟨i1, i2, i3⟩
      · skip
        have hno : ¬ F_levelOf (F_operationHere f n rs) = 1 := by
          rw [hlv, if_neg hN.1.1, if_neg hN.1.2.1, if_neg hN.1.2.2, if_neg h60, if_neg h61]
          repeat' split
          all_goals decide
        rw [if_neg hno]
        exact .inl ⟨h0, AFr_refl, hc, k + 1, r, b, rfl, hk, hp, EF_refl, ⟨hN.1, fun e => absurd e h60, fun e => absurd e h61⟩⟩
theorem lev1_sim (hfg : ∀ k, k < n → f k = g k) (hn : n ≤ 1000) {G : rRS → aAS → rRS × aAS} (hd : d ≤ 5) (hG : LG f g n d (d + 1) (fun _ => True) (fun s _ => N2 f n s) G) : LG f g n d d (fun b => opC b d = 0) (fun s c => N1 f n d s c) (F_lev1 f n G) := by
  intro rs a r b k h0 hp hc hk hpop hpre
  unfold F_lev1
  rw [if_pos h0]
  rcases hG rs a r b k h0 hp hc hk hpop trivial with ⟨i1, i2, i3, k1, s, c, i4, i5, i6, i7, i8, i9⟩ | ⟨i1, i2, i3⟩
  · exact EO_pre (lvl1_sim hfg hn hd hG 1000 _ _ s c k1 (n_lt hn i8.2) i1 i6 i3 i5 ((popn_same d i7.2.2.2.2.1).trans hpop) ⟨i9, (i7.2.2.2.2.2 d (by omega)).trans hpre⟩) i4 i2 (EF_weak i7 (Nat.le_refl _) (by omega)) (Nat.le_refl _) (Nat.le_refl _) (fun t e h1 hq => ⟨ES_l i8 h1, hq⟩)
  · rw [lvl1_f i1 1000]
    exact .inr ⟨i1, i2, i3⟩
theorem lvl0_f {G : rRS → aAS → rRS × aAS} {rs : rRS} {a : aAS} (h : ¬ rs.1 = 0) : ∀ K : Nat, F_lvl0 f n G K rs a = (rs, a)
  | 0 => rfl
  | K + 1 => by rw [F_lvl0_s, if_neg h]
theorem lvl0_sim (hfg : ∀ k, k < n → f k = g k) (hn : n ≤ 1000) {G : rRS → aAS → rRS × aAS} (hd : d ≤ 5) (hG : LG f g n d d (fun b => opC b d = 0) (fun s c => N1 f n d s c) G) : ∀ (K : Nat) (rs : rRS) (a : aAS) (r : mRS) (b : mAS) (k : Nat), n - ts g n r.2.1 < K → rs.1 = 0 → rs.2.1 = r.2.1 → cur f g n rs → n - ts g n r.2.1 < k → popn (opO b) d = d → N1 f n d r b → EO f g n (F_m_rdl g n k d 0 r b) d d a r b (F_lvl0 f n G K rs a) d (fun s c => N0 f n d s c)
  | 0, rs, a, r, b, k, hK, h0, hp, hc, hk, hpop, hN => absurd hK (Nat.not_lt_zero _)
  | K + 1, rs, a, r, b, k, hK, h0, hp, hc, hk, hpop, hN => by
    have hlv := op_lev (f := f) (n := n) (rs := rs)
    rw [hp] at hlv
    rw [F_lvl0_s, if_pos h0]
    have hpa : te f n rs.2.1 = te g n r.2.1 := by rw [hp, te_same hfg]
    have ne : ∀ {c c' : Int32}, tk f n r.2.1 = c → ¬ c = c' → ¬ tk f n r.2.1 = c' := fun h1 h2 h3 => h2 (h1.symm.trans h3)
    obtain ⟨k, rfl⟩ : ∃ j, k = j + 1 := ⟨k - 1, by omega⟩
    by_cases h20 : tw f n r.2.1 = 20
    · have t1 : tk f n r.2.1 = 1 := tk_w hfg (by rw [h20]; decide)
      have hl9 : F_levelOf (F_operationHere f n rs) = 0 := by rw [hlv, if_neg (ne t1 (by decide)), if_neg (ne t1 (by decide)), if_neg (ne t1 (by decide)), if_neg (ne t1 (by decide)), if_neg (ne t1 (by decide)), if_pos h20]
      rw [if_pos hl9]
      have hlt : ts g n r.2.1 < n := lt_word (x := 1111) (wd1 hfg (i := 20) (by decide) (by decide) (by decide) h20)
      have hrd : F_m_rdl g n (k + 1) d 0 r b = F_m_rdl g n k d 1 (mv g n (F_m_puts g n r b 26).1) (cmU (F_m_puts g n r b 26).2 d 0) := rd_and rfl (sg0 hfg hn (by decide) (ne t1 (by decide))) (sg0 hfg hn (by decide) (ne t1 (by decide))) (sg0 hfg hn (by decide) (ne t1 (by decide))) (sg0 hfg hn (by decide) (ne t1 (by decide))) (sg0 hfg hn (by decide) (ne t1 (by decide))) (wd1 hfg (by decide) (by decide) (by decide) h20)
      have e1 : EF g n d d r b (mv g n (F_m_puts g n r b 26).1) (cmU (F_m_puts g n r b 26).2 d 0) := (EF_cm hd)
      have hpop1 : popn (opO (cmU (F_m_puts g n r b 26).2 d 0)) d = d := (popn_same d e1.2.2.2.2.1).trans hpop
      rcases hG (av f n rs) a (mv g n (F_m_puts g n r b 26).1) (cmU (F_m_puts g n r b 26).2 d 0) k h0 hpa (cur_av hfg) (hk_step hlt hk) hpop1 (cmU_c (by omega)) with ⟨i1, i2, i3, k1, s, c, i4, i5, i6, i7, i8, i9⟩ | ⟨i1, i2, i3⟩
      · have e2 : EF g n d d r b s c := EF_trans e1 i7 (Nat.le_refl _) (Nat.le_refl _)
        have hts : ts g n r.2.1 < ts g n s.2.1 := Nat.lt_of_le_of_lt ts_mono i8.2
        have hs9 : ts g n s.2.1 ≤ n := ts_le
        exact EO_pre (lvl0_sim hfg hn hd hG K _ _ s c k1 (by omega) i1 i6 i3 i5 ((popn_same d e2.2.2.2.2.1).trans hpop) i9) (hrd.trans i4) (AFr_trans i2 AFr_code) e2 (Nat.le_refl _) (Nat.le_refl _) (fun _ _ _ hq => hq)
      · rw [lvl0_f i1 K]
        rw [← hrd] at i2 i3
        exact .inr ⟨i1, i2, i3⟩
    · skip
      by_cases h21 : tw f n r.2.1 = 21
      · have t1 : tk f n r.2.1 = 1 := tk_w hfg (by rw [h21]; decide)
        have hl9 : F_levelOf (F_operationHere f n rs) = 0 := by rw [hlv, if_neg (ne t1 (by decide)), if_neg (ne t1 (by decide)), if_neg (ne t1 (by decide)), if_neg (ne t1 (by decide)), if_neg (ne t1 (by decide)), if_neg (by rw [h21]; decide), if_pos h21]
        rw [if_pos hl9]
        have hlt : ts g n r.2.1 < n := lt_word (x := 423) (wd1 hfg (i := 21) (by decide) (by decide) (by decide) h21)
        have hrd : F_m_rdl g n (k + 1) d 0 r b = F_m_rdl g n k d 1 (mv g n (F_m_puts g n r b 27).1) (cmU (F_m_puts g n r b 27).2 d 0) := rd_orr rfl (sg0 hfg hn (by decide) (ne t1 (by decide))) (sg0 hfg hn (by decide) (ne t1 (by decide))) (sg0 hfg hn (by decide) (ne t1 (by decide))) (sg0 hfg hn (by decide) (ne t1 (by decide))) (sg0 hfg hn (by decide) (ne t1 (by decide))) (wd0 hfg (i := 20) (by decide) (by decide) (by decide) (by rw [h21]; decide)) (wd1 hfg (by decide) (by decide) (by decide) h21)
        have e1 : EF g n d d r b (mv g n (F_m_puts g n r b 27).1) (cmU (F_m_puts g n r b 27).2 d 0) := (EF_cm hd)
        have hpop1 : popn (opO (cmU (F_m_puts g n r b 27).2 d 0)) d = d := (popn_same d e1.2.2.2.2.1).trans hpop
        rcases hG (av f n rs) a (mv g n (F_m_puts g n r b 27).1) (cmU (F_m_puts g n r b 27).2 d 0) k h0 hpa (cur_av hfg) (hk_step hlt hk) hpop1 (cmU_c (by omega)) with ⟨i1, i2, i3, k1, s, c, i4, i5, i6, i7, i8, i9⟩ | ⟨i1, i2, i3⟩
        · have e2 : EF g n d d r b s c := EF_trans e1 i7 (Nat.le_refl _) (Nat.le_refl _)
          have hts : ts g n r.2.1 < ts g n s.2.1 := Nat.lt_of_le_of_lt ts_mono i8.2
          have hs9 : ts g n s.2.1 ≤ n := ts_le
          exact EO_pre (lvl0_sim hfg hn hd hG K _ _ s c k1 (by omega) i1 i6 i3 i5 ((popn_same d e2.2.2.2.2.1).trans hpop) i9) (hrd.trans i4) (AFr_trans i2 AFr_code) e2 (Nat.le_refl _) (Nat.le_refl _) (fun _ _ _ hq => hq)
        · rw [lvl0_f i1 K]
          rw [← hrd] at i2 i3
          exact .inr ⟨i1, i2, i3⟩
      · skip
        have hno : ¬ F_levelOf (F_operationHere f n rs) = 0 := by
          rw [hlv, if_neg hN.1.1, if_neg hN.1.2.1, if_neg hN.1.2.2]
          rw [if_neg h20, if_neg h21]
          repeat' split
          all_goals decide
        rw [if_neg hno]
        exact .inl ⟨h0, AFr_refl, hc, k + 1, r, b, rfl, hk, hp, EF_refl, ⟨hN, h20, h21⟩⟩
theorem lev0_sim (hfg : ∀ k, k < n → f k = g k) (hn : n ≤ 1000) {G : rRS → aAS → rRS × aAS} (hd : d ≤ 5) (hG : LG f g n d d (fun b => opC b d = 0) (fun s c => N1 f n d s c) G) : LG f g n d d (fun b => opC b d = 0) (fun s c => N0 f n d s c) (F_lev0 f n G) := by
  intro rs a r b k h0 hp hc hk hpop hpre
  unfold F_lev0
  rw [if_pos h0]
  rcases hG rs a r b k h0 hp hc hk hpop hpre with ⟨i1, i2, i3, k1, s, c, i4, i5, i6, i7, i8, i9⟩ | ⟨i1, i2, i3⟩
  · exact EO_pre (lvl0_sim hfg hn hd hG 1000 _ _ s c k1 (n_lt hn i8.2) i1 i6 i3 i5 ((popn_same d i7.2.2.2.2.1).trans hpop) i9) i4 i2 (EF_weak i7 (Nat.le_refl _) (by omega)) (Nat.le_refl _) (Nat.le_refl _) (fun t e h1 hq => ⟨ES_l i8 h1, hq⟩)
  · rw [lvl0_f i1 1000]
    exact .inr ⟨i1, i2, i3⟩
theorem E_of (hfg : ∀ k, k < n → f k = g k) (hn : n ≤ 1000) (hd : d ≤ 5) {P : rRS → aAS → rRS × aAS} (hP : PS f g n d P) : LG f g n d d (fun b => opC b d = 0) (fun s c => N0 f n d s c) (eE f n P) :=
  lev0_sim hfg hn hd (lev1_sim hfg hn hd (lev2_sim hfg hn hd (lev3_sim hfg hn hd (lev4_sim hP))))
theorem P_sim (hfg : ∀ k, k < n → f k = g k) (hn : n ≤ 1000) : ∀ (e d : Nat), d + e = 5 → PS f g n d (eP f n e)
  | 0, d, hde => by
    intro rs a r b k h0 hp hc hk
    have ed : d = 5 := by omega
    have h5 : nI d = 5 := by rw [ed]; rfl
    obtain ⟨k, rfl⟩ : ∃ j, k = j + 1 := ⟨k - 1, by omega⟩
    show EO f g n _ _ _ _ _ _ (F_part5 f n rs a) _ _
    unfold F_part5
    rw [hp]
    have hw1 : ¬ (1 : Int32) = 0 := by decide
    by_cases t2 : tk f n r.2.1 = 2
    · have w0 : tw f n r.2.1 = 0 := tw_k hfg (by rw [t2]; decide)
      have f0 : F_m_fact g n r = 0 := (fact_eq hfg).mpr (by rw [w0]; decide)
      have v19 := wd0 (r := r) hfg (i := 19) (x := 10631) (by decide) (by decide) (by decide) (by rw [w0]; decide)
      rw [if_pos t2, if_neg (by rw [w0]; decide)]
      exact EO_fail hfg hn h0 hp (by decide) (by decide) (rd_n5 hw1 f0 v19 (sg0 hfg hn (by decide) (by rw [t2]; decide)) ((k2_eq hfg).mpr t2) h5)
    · rw [if_neg t2]
      by_cases w19 : tw f n r.2.1 = 19
      · have f0 : F_m_fact g n r = 0 := (fact_eq hfg).mpr (by rw [w19]; decide)
        rw [if_pos w19, if_pos (by rw [w19]; decide)]
        exact EO_fail hfg hn h0 hp (by decide) (by decide) (rd_t5 hw1 f0 (wd1 hfg (i := 19) (by decide) (by decide) (by decide) w19) h5)
      · rw [if_neg w19]
        by_cases hf : F_isFact (tw f n r.2.1) = 0
        · have f0 : F_m_fact g n r = 0 := (fact_eq hfg).mpr hf
          have v19 := wd0 (r := r) hfg (i := 19) (x := 10631) (by decide) (by decide) (by decide) w19
          rw [if_pos hf]
          by_cases t40 : tk f n r.2.1 = 40
          · rw [if_pos t40]
            exact EO_fail hfg hn h0 hp (by decide) (by decide) (rd_o5 hw1 f0 v19 (sg1 hfg hn (by decide) t40) h5)
          · rw [if_neg t40]
            exact EO_fail hfg hn h0 hp (by decide) (by decide) (rd_f1 hw1 f0 v19 (sg0 hfg hn (by decide) t40) (fun h => t2 ((k2_eq hfg).mp h)))
        · rw [if_neg hf]
          exact EO_fail hfg hn h0 hp (by decide) (by decide) (rd_c5 hw1 (fun h => hf ((fact_eq hfg).mp h)) h5)
  | e + 1, d, hde => by
    intro rs a r b k h0 hp hc hk
    have hd : d ≤ 5 := by omega
    have h5 : ¬ nI d = 5 := nI5 (by omega)
    obtain ⟨k, rfl⟩ : ∃ j, k = j + 1 := ⟨k - 1, by omega⟩
    show EO f g n _ _ _ _ _ _ (F_part f n (eP f n e) (eE f n (eP f n e)) rs a) _ _
    unfold F_part
    have hpa : te f n rs.2.1 = te g n r.2.1 := by rw [hp, te_same hfg]
    rw [hp]
    have hw1 : ¬ (1 : Int32) = 0 := by decide
    have IH := P_sim hfg hn e (d + 1) (by omega)
    by_cases t2 : tk f n r.2.1 = 2
    · have w0 : tw f n r.2.1 = 0 := tw_k hfg (by rw [t2]; decide)
      have f0 : F_m_fact g n r = 0 := (fact_eq hfg).mpr (by rw [w0]; decide)
      have v19 := wd0 (r := r) hfg (i := 19) (x := 10631) (by decide) (by decide) (by decide) (by rw [w0]; decide)
      have k2 := (k2_eq (rs := r) hfg).mpr t2
      rw [if_pos t2, if_neg (by rw [w0]; decide)]
      exact .inl ⟨h0, AFr_code, cur_av hfg, k, _, _, rd_num hw1 f0 v19 (sg0 hfg hn (by decide) (by rw [t2]; decide)) k2 h5 (by rw [f0]; decide), hk_step (lt_k2 k2) hk, hpa, EF_pl, ES_pl (lt_k2 k2)⟩
    · rw [if_neg t2]
      by_cases w19 : tw f n r.2.1 = 19
      · have f0 : F_m_fact g n r = 0 := (fact_eq hfg).mpr (by rw [w19]; decide)
        have v19 := wd1 (r := r) hfg (i := 19) (x := 10631) (by decide) (by decide) (by decide) w19
        have hlt := lt_word v19
        rw [if_pos w19, if_pos (by rw [w19]; decide)]
        have hrd : F_m_rdl g n (k + 1) d 1 r b = F_m_rdl g n k (d + 1) 1 (mv g n (F_m_puts g n r b 30).1) (opU (F_m_puts g n r b 30).2 (d + 1) 1 0) := rd_not hw1 f0 v19 h5
        have e1 : EF g n d (d + 1) r b (mv g n (F_m_puts g n r b 30).1) (opU (F_m_puts g n r b 30).2 (d + 1) 1 0) := EF_op hd
        rcases IH (av f n rs) a (mv g n (F_m_puts g n r b 30).1) (opU (F_m_puts g n r b 30).2 (d + 1) 1 0) k h0 hpa (cur_av hfg) (hk_step hlt hk) with ⟨i1, i2, i3, k1, s, c, i4, i5, i6, i7, i8⟩ | ⟨i1, i2, i3⟩
        · have ep : popn (opO (opU (F_m_puts g n r b 30).2 (d + 1) 1 0)) (d + 1) = popn (opO b) d := by
            show (if opO (opU (F_m_puts g n r b 30).2 (d + 1) 1 0) (d + 1) = 1 then popn (opO (opU (F_m_puts g n r b 30).2 (d + 1) 1 0)) d else d + 1) = _
            rw [if_pos (opU_o (by omega))]
            exact popn_same d e1.2.2.2.2.1
          rw [ep] at i4
          exact .inl ⟨i1, AFr_trans i2 AFr_code, i3, k1, s, c, hrd.trans i4, i5, i6, EF_trans e1 i7 (Nat.le_succ _) (Nat.le_succ _), ES_t (ES_pl (b := b) (k := 30) hlt) i8⟩
        · rw [← hrd] at i2 i3
          exact .inr ⟨i1, i2, i3⟩
      · rw [if_neg w19]
        have v19 := wd0 (r := r) hfg (i := 19) (x := 10631) (by decide) (by decide) (by decide) w19
        by_cases hf : F_isFact (tw f n r.2.1) = 0
        · have f0 : F_m_fact g n r = 0 := (fact_eq hfg).mpr hf
          rw [if_pos hf]
          by_cases t40 : tk f n r.2.1 = 40
          · rw [if_pos t40]
            have s40 := sg1 (r := r) hfg hn (c := 40) (by decide) t40
            have hlt := lt_sign s40
            have hrd : F_m_rdl g n (k + 1) d 1 r b = F_m_rdl g n k (d + 1) 1 (mv g n (F_m_puts g n r b 28).1) (opU (F_m_puts g n r b 28).2 (d + 1) 2 0) := rd_opn hw1 f0 v19 s40 h5
            have e1 : EF g n d (d + 1) r b (mv g n (F_m_puts g n r b 28).1) (opU (F_m_puts g n r b 28).2 (d + 1) 2 0) := EF_op hd
            have ep : popn (opO (opU (F_m_puts g n r b 28).2 (d + 1) 2 0)) (d + 1) = d + 1 := by
              show (if opO (opU (F_m_puts g n r b 28).2 (d + 1) 2 0) (d + 1) = 1 then popn (opO (opU (F_m_puts g n r b 28).2 (d + 1) 2 0)) d else d + 1) = _
              rw [if_neg (by rw [opU_o (by omega)]; decide)]
            rcases E_of hfg hn (by omega) IH (av f n rs) a (mv g n (F_m_puts g n r b 28).1) (opU (F_m_puts g n r b 28).2 (d + 1) 2 0) k h0 hpa (cur_av hfg) (hk_step hlt hk) ep (opU_c (by omega)) with ⟨i1, i2, i3, k1, s, c, i4, i5, i6, i7, i8, i9⟩ | ⟨i1, i2, i3⟩
            · obtain ⟨k1, rfl⟩ : ∃ j, k1 = j + 1 := ⟨k1 - 1, by omega⟩
              obtain ⟨⟨⟨n42, n43, n45⟩, n60, n61⟩, n20, n21⟩ := i9
              have e2 : EF g n d (d + 1) r b s c := EF_trans e1 i7 (Nat.le_succ _) (Nat.le_refl _)
              unfold F_passSign
              rw [i6]
              by_cases t41 : tk f n s.2.1 = 41
              · rw [if_pos t41, if_pos i1]
                have s41 := sg1 (r := s) hfg hn (c := 41) (by decide) t41
                have hl2 := lt_sign s41
                have ne : ∀ {c' : Int32}, ¬ (41 : Int32) = c' → ¬ tk f n s.2.1 = c' := fun h2 h3 => h2 (t41.symm.trans h3)
                have hrd2 : F_m_rdl g n (k1 + 1) (d + 1) 0 s c = F_m_rdl g n k1 (popn (opO c) d) 0 (mv g n (F_m_puts g n s c 29).1) (F_m_puts g n s c 29).2 := rd_cls rfl (sg0 hfg hn (by decide) n43) (sg0 hfg hn (by decide) n45) (sg0 hfg hn (by decide) n42) (sg0 hfg hn (by decide) (ne (by decide))) (sg0 hfg hn (by decide) (ne (by decide))) (wd0 hfg (i := 20) (by decide) (by decide) (by decide) n20) (wd0 hfg (i := 21) (by decide) (by decide) (by decide) n21) s41 (nI_nle (Nat.succ_pos _) (by omega))
                rw [popn_same d (fun i hi => e2.2.2.2.2.1 i hi)] at hrd2
                refine .inl ⟨i1, i2, cur_av hfg, k1, _, _, (hrd.trans i4).trans hrd2, hk_step hl2 i5, ?_, EF_trans e2 EF_pl (Nat.le_refl _) (Nat.le_refl _), ES_t (ES_t (ES_pl (b := b) (k := 28) hlt) i8) (ES_pl hl2)⟩
                show te f n _ = te g n s.2.1
                rw [i6, te_same hfg]
              · rw [if_neg t41]
                exact EO_fail hfg hn i1 i6 (by decide) (by decide) ((hrd.trans i4).trans (rd_bad hfg hn (by omega) n42 n43 n45 n60 n61 n20 n21 (fun h => absurd h t41) (fun _ => Nat.succ_ne_zero _)))
            · rw [ps_f i1]
              rw [← hrd] at i2 i3
              exact .inr ⟨i1, i2, i3⟩
          · rw [if_neg t40]
            exact EO_fail hfg hn h0 hp (by decide) (by decide) (rd_f1 hw1 f0 v19 (sg0 hfg hn (by decide) t40) (fun h => t2 ((k2_eq hfg).mp h)))
        · rw [if_neg hf]
          have f0 : ¬ F_m_fact g n r = 0 := fun h => hf ((fact_eq hfg).mp h)
          have t1 : tk f n r.2.1 = 1 := tk_w hfg (fun h => hf (by rw [h]; decide))
          exact .inl ⟨h0, AFr_code, cur_av hfg, k, _, _, rd_fct hw1 f0 h5 v19 (sg0 hfg hn (by decide) (by rw [t1]; decide)) (fctp f0), hk_step (lt_fact f0) hk, hpa, EF_pl, ES_pl (lt_fact f0)⟩
end EE

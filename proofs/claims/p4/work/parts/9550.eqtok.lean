/-! names: a word's letters, last first -/
def cd (b : Nat) : List Nat → Nat
  | [] => 0
  | d :: r => d + b * cd b r
def gd (l : List Nat) : Prop := ∀ d, d ∈ l → 1 ≤ d ∧ d ≤ 26
theorem gd_tl {d : Nat} {r : List Nat} (h : gd (d :: r)) : gd r := fun x hx => h x (List.mem_cons_of_mem _ hx)
theorem cd_inj {b : Nat} (hb : 27 ≤ b) : ∀ l l' : List Nat, gd l → gd l' → cd b l = cd b l' → l = l'
  | [], [], _, _, _ => rfl
  | [], d :: r, _, h, e => by
    have h1 := h d List.mem_cons_self
    have e : 0 = d + b * cd b r := e
    omega
  | d :: r, [], h, _, e => by
    have h1 := h d List.mem_cons_self
    have e : d + b * cd b r = 0 := e
    omega
  | d :: r, d' :: r', h, h', e => by
    have h1 := h d List.mem_cons_self
    have h2 := h' d' List.mem_cons_self
    have e : d + b * cd b r = d' + b * cd b r' := e
    have e1 := congrArg (fun x => x % b) e
    simp only [Nat.add_mul_mod_self_left] at e1
    rw [Nat.mod_eq_of_lt (by omega), Nat.mod_eq_of_lt (by omega)] at e1
    subst e1
    have e2 : b * cd b r = b * cd b r' := by omega
    have e3 := Nat.eq_of_mul_eq_mul_left (by omega) e2
    rw [cd_inj hb r r' (gd_tl h) (gd_tl h') e3]
theorem cd_lt {b : Nat} (hb : 27 ≤ b) : ∀ l : List Nat, gd l → cd b l < b ^ l.length
  | [], _ => by show 0 < b ^ 0; exact Nat.lt_of_lt_of_le Nat.zero_lt_one (Nat.le_of_eq (Nat.pow_zero b).symm)
  | d :: r, h => by
    have h1 := h d List.mem_cons_self
    have h2 := cd_lt hb r (gd_tl h)
    show d + b * cd b r < b ^ (r.length + 1)
    have h3 : b * (cd b r + 1) ≤ b * b ^ r.length := Nat.mul_le_mul_left b h2
    rw [Nat.pow_succ, Nat.mul_comm (b ^ r.length) b]
    rw [Nat.mul_add, Nat.mul_one] at h3
    omega
theorem cd_32 {l : List Nat} (h : gd l) (h8 : l.length ≤ 8) : cd 32 l < 2 ^ 63 := by
  have h1 := cd_lt (b := 32) (by decide) l h
  have h2 : 32 ^ l.length ≤ 32 ^ 8 := Nat.pow_le_pow_right (by decide) h8
  have h3 : (32 : Nat) ^ 8 < 2 ^ 63 := by decide
  omega
theorem cd_27 {l : List Nat} (h : gd l) (h8 : l.length ≤ 8) : cd 27 l < 2 ^ 63 := by
  have h1 := cd_lt (b := 27) (by decide) l h
  have h2 : 27 ^ l.length ≤ 27 ^ 8 := Nat.pow_le_pow_right (by decide) h8
  have h3 : (27 : Nat) ^ 8 < 2 ^ 63 := by decide
  omega
theorem lN_inj {a b : Nat} (ha : a < 2 ^ 63) (hb : b < 2 ^ 63) (h : lN a = lN b) : a = b := by
  have h1 := congrArg Int64.toInt h
  rw [show (lN a).toInt = (a : Int) from lg_ofNat_toInt ha, show (lN b).toInt = (b : Int) from lg_ofNat_toInt hb] at h1
  omega
/-- one name, as the class and as the model hold it -/
def nR (x y : Int64) : Prop := ∃ l : List Nat, gd l ∧ l.length ≤ 8 ∧ x = lN (cd 32 l) ∧ y = lN (cd 27 l)
theorem nR_eq {x y x' y' : Int64} (h : nR x y) (h' : nR x' y') : x = x' ↔ y = y' := by
  obtain ⟨l, g1, g2, rfl, rfl⟩ := h
  obtain ⟨l', g1', g2', rfl, rfl⟩ := h'
  constructor
  · intro e
    rw [cd_inj (by decide) l l' g1 g1' (lN_inj (cd_32 g1 g2) (cd_32 g1' g2') e)]
  · intro e
    rw [cd_inj (by decide) l l' g1 g1' (lN_inj (cd_27 g1 g2) (cd_27 g1' g2') e)]
def lts (f : Nat → Int32) (s : Nat) : Nat → List Nat
  | 0 => []
  | k + 1 => ((f (s + k)).toInt - 96).toNat :: lts f s k
theorem isL_b {c : Int32} (h : isL c = true) : 97 ≤ c.toInt ∧ c.toInt ≤ 122 := by
  unfold isL at h
  simp only [Bool.and_eq_true, decide_eq_true_eq, Int32.lt_iff_toInt_lt, show (97 : Int32).toInt = 97 from by decide, show (122 : Int32).toInt = 122 from by decide] at h
  omega
theorem isD_b {c : Int32} (h : isD c = true) : 48 ≤ c.toInt ∧ c.toInt ≤ 57 := by
  unfold isD at h
  simp only [Bool.and_eq_true, decide_eq_true_eq, Int32.lt_iff_toInt_lt, show (48 : Int32).toInt = 48 from by decide, show (57 : Int32).toInt = 57 from by decide] at h
  omega
section LTS
variable {f g : Nat → Int32} {s : Nat}
theorem lts_gd : ∀ k : Nat, (∀ i, s ≤ i → i < s + k → isL (f i) = true) → gd (lts f s k)
  | 0, _ => fun d hd => by cases hd
  | k + 1, h => fun d hd => by
    rcases List.mem_cons.mp hd with e | e
    · have h1 := isL_b (h (s + k) (by omega) (by omega))
      omega
    · exact lts_gd k (fun i h1 h2 => h i h1 (by omega)) d e
theorem lts_len : ∀ k : Nat, (lts f s k).length = k
  | 0 => rfl
  | k + 1 => by show (lts f s k).length + 1 = k + 1; rw [lts_len k]
theorem lts_same : ∀ k : Nat, (∀ i, s ≤ i → i < s + k → f i = g i) → lts f s k = lts g s k
  | 0, _ => rfl
  | k + 1, h => by
    show ((f (s + k)).toInt - 96).toNat :: lts f s k = ((g (s + k)).toInt - 96).toNat :: lts g s k
    rw [h (s + k) (by omega) (by omega), lts_same k (fun i h1 h2 => h i h1 (by omega))]
theorem c_l {c : Int32} (h : isL c = true) : (c - 96).toInt64 = lN (c.toInt - 96).toNat := by
  have h1 := isL_b h
  apply Int64.toInt_inj.mp
  rw [Int32.toInt_toInt64, q_subT, show (96 : Int32).toInt = 96 from by decide, q_bmod (by unfold i32lo; omega) (by unfold i32hi; omega), lN_toInt (by omega)]
  omega
theorem c_m {c : Int32} (h : isL c = true) : c.toInt64 = lN ((c.toInt - 96).toNat + 96) := by
  have h1 := isL_b h
  apply Int64.toInt_inj.mp
  rw [Int32.toInt_toInt64, lN_toInt (by omega)]
  omega
theorem vl_lN : ∀ k : Nat, (∀ i, s ≤ i → i < s + k → isL (f i) = true) → vl 32 f s k = lN (cd 32 (lts f s k))
  | 0, _ => rfl
  | k + 1, h => by
    show vl 32 f s k * 32 + (f (s + k) - 96).toInt64 = lN (((f (s + k)).toInt - 96).toNat + 32 * cd 32 (lts f s k))
    rw [vl_lN k (fun i h1 h2 => h i h1 (by omega)), c_l (h (s + k) (by omega) (by omega)), show (32 : Int64) = lN 32 from rfl, lN_mul, lN_add, Nat.mul_comm, Nat.add_comm]
theorem vm_lN : ∀ k : Nat, (∀ i, s ≤ i → i < s + k → isL (f i) = true) → vm f s k = lN (cd 27 (lts f s k))
  | 0, _ => rfl
  | k + 1, h => by
    show vm f s k * 27 + (f (s + k)).toInt64 - 96 = lN (((f (s + k)).toInt - 96).toNat + 27 * cd 27 (lts f s k))
    rw [vm_lN k (fun i h1 h2 => h i h1 (by omega)), c_m (h (s + k) (by omega) (by omega)), show (27 : Int64) = lN 27 from rfl, show (96 : Int64) = lN 96 from rfl, lN_mul, lN_add, lN_sub (by omega)]
    congr 1
    omega
theorem vn_vd : ∀ k : Nat, (∀ i, s ≤ i → i < s + k → f i = g i) → vn g s k = vd f s k
  | 0, _ => rfl
  | k + 1, h => by
    show vn g s k * 10 + g (s + k) - 48 = vd f s k * 10 + (f (s + k) - 48)
    rw [vn_vd k (fun i h1 h2 => h i h1 (by omega)), h (s + k) (by omega) (by omega), Int32.sub_eq_add_neg, Int32.sub_eq_add_neg, Int32.add_assoc]
end LTS
/-! the words -/
def wls : List (List Nat) := [[], [], [20, 8, 7, 21, 15, 8, 20], [8, 20, 18, 15, 23], [20, 18, 1, 16], [19, 23, 15, 12, 12, 15, 6], [20, 14, 1, 14, 5, 20], [5, 8, 20, 9, 20], [19, 14, 21, 18], [5, 14, 9, 7, 14, 5], [19, 14, 9, 1, 7], [11, 3, 1, 2], [11, 14, 9, 8, 20], [5, 20, 1, 7], [12, 15, 15, 16], [14, 9, 1, 12, 16], [5, 12, 16, 13, 9, 19], [18, 5, 22, 5, 12, 3], [18, 5, 14, 14, 21, 18], [20, 15, 14], [4, 14, 1], [18, 15], [4, 5, 20, 14, 21, 15, 3], [8, 3, 9, 18], [5, 3, 5, 9, 16], [14, 18, 1, 2]]
def w27 : List Int64 := [0, 0, 7871591333, 12532058, 316163, 2546381602, 289912034, 10820768, 370000, 79329434, 3746728, 40187, 10793234, 139055, 326280, 8740238, 277680074, 49538619, 269726508, 10631, 1111, 423, 1388945614, 360944, 8683934, 40595]
def gdB (l : List Nat) : Bool := l.all (fun d => decide (1 ≤ d) && decide (d ≤ 26)) && decide (l.length ≤ 8)
theorem gd_B {l : List Nat} (h : gdB l = true) : gd l ∧ l.length ≤ 8 := by
  unfold gdB at h
  simp only [Bool.and_eq_true, decide_eq_true_eq, List.all_eq_true] at h
  exact ⟨h.1, h.2⟩
theorem w_ok : ∀ i : Nat, i < 26 → 2 ≤ i → gdB (wls.getD i []) = true ∧ kWl.getD i 0 = lN (cd 32 (wls.getD i [])) ∧ w27.getD i 0 = lN (cd 27 (wls.getD i [])) := by decide +kernel
theorem w_dist : ∀ i : Nat, i < 26 → 2 ≤ i → ∀ r : Nat, r < 26 → kWl.getD r 0 = kWl.getD i 0 → r = i := by decide +kernel
theorem wofk_spec (x : Int64) : ∀ d k : Nat, d + k = 26 → (wofk x d k = 1 ∧ ∀ j, k ≤ j → j < 26 → ¬ kWl.getD j 0 = x) ∨ (k ≤ wofk x d k ∧ wofk x d k < 26 ∧ kWl.getD (wofk x d k) 0 = x)
  | 0, k, h => .inl ⟨rfl, fun j h1 h2 => by omega⟩
  | d + 1, k, h => by
    show ((if kWl.getD k 0 = x then k else wofk x d (k + 1)) = 1 ∧ ∀ j, k ≤ j → j < 26 → ¬ kWl.getD j 0 = x) ∨ (k ≤ (if kWl.getD k 0 = x then k else wofk x d (k + 1)) ∧ (if kWl.getD k 0 = x then k else wofk x d (k + 1)) < 26 ∧ kWl.getD (if kWl.getD k 0 = x then k else wofk x d (k + 1)) 0 = x)
    by_cases hx : kWl.getD k 0 = x
    · rw [if_pos hx]
      exact .inr ⟨Nat.le_refl _, by omega, hx⟩
    · rw [if_neg hx]
      rcases wofk_spec x d (k + 1) (by omega) with ⟨h1, h2⟩ | ⟨h1, h2, h3⟩
      · refine .inl ⟨h1, fun j h3 h4 => ?_⟩
        by_cases e : j = k
        · rw [e]; exact hx
        · exact h2 j (by omega) h4
      · exact .inr ⟨by omega, h2, h3⟩
theorem wof_iff {x : Int64} {i : Nat} (h2 : 2 ≤ i) (hi : i < 26) : wof x = i ↔ kWl.getD i 0 = x := by
  have hs := wofk_spec x 26 0 rfl
  constructor
  · intro e
    have e : wofk x 26 0 = i := e
    rcases hs with ⟨h1, _⟩ | ⟨_, _, h3⟩
    · omega
    · rw [e] at h3; exact h3
  · intro e
    show wofk x 26 0 = i
    rcases hs with ⟨_, h1⟩ | ⟨_, h4, h3⟩
    · exact absurd e (h1 i (Nat.zero_le _) hi)
    · exact w_dist i hi h2 _ h4 (h3.trans e.symm)
theorem wof_word {l : List Nat} (hg : gd l) (h8 : l.length ≤ 8) {i : Nat} (h2 : 2 ≤ i) (hi : i < 26) : wof (lN (cd 32 l)) = i ↔ lN (cd 27 l) = w27.getD i 0 := by
  obtain ⟨a1, a2, a3⟩ := w_ok i hi h2
  obtain ⟨b1, b2⟩ := gd_B a1
  rw [wof_iff h2 hi, a2, a3]
  have h := nR_eq ⟨_, b1, b2, rfl, rfl⟩ ⟨l, hg, h8, rfl, rfl⟩
  exact h.trans ⟨fun e => e.symm, fun e => e.symm⟩
theorem wof_ge (x : Int64) (h : ¬ x = 0) : 1 ≤ wof x := by
  rcases wofk_spec x 26 0 rfl with ⟨h1, _⟩ | ⟨_, h4, h3⟩
  · exact Nat.le_of_eq h1.symm
  · show 1 ≤ wofk x 26 0
    rcases Nat.eq_zero_or_pos (wofk x 26 0) with e | e
    · rw [e] at h3
      exact absurd h3.symm h
    · exact e
/-! a token, as both see it -/
section TC
variable {f g : Nat → Int32} {n p : Nat}
theorem r_same (hfg : ∀ k, k < n → f k = g k) {P : Int32 → Bool} {s : Nat} : rn P g n s = rn P f n s := (rn_same hfg).symm
theorem tcase (hfg : ∀ k, k < n → f k = g k) (p : Nat) :
    (tk f n p = 0 ∧ tw f n p = 0 ∧ mk g n p = 0) ∨
    (tk f n p = 1 ∧ mk g n p = 1 ∧ ∃ l : List Nat, gd l ∧ l.length ≤ 8 ∧ 1 ≤ l.length ∧ tw f n p = wof (lN (cd 32 l)) ∧ mw g n p = lN (cd 27 l) ∧ ∀ y, tl f n p y = lN (cd 32 l)) ∨
    (tk f n p = 2 ∧ tw f n p = 0 ∧ mk g n p = 2 ∧ ∀ x, tn f n p x = mt g n p) ∨
    (isS (tk f n p) = true ∧ tw f n p = 0 ∧ mk g n p = 3 ∧ g (ts g n p) = tk f n p) ∨
    (tk f n p = 3 ∧ tw f n p = 0 ∧ mk g n p = 4) := by
  have es : ts g n p = ts f n p := (ts_same hfg).symm
  unfold tk tw mk mw tl tn mt
  rw [es]
  generalize ts f n p = s
  by_cases hs : s < n
  · have ec : g s = f s := (hfg s hs).symm
    by_cases hl : isL (f s) = true
    · have hr : rn isL g n s = rn isL f n s := r_same hfg
      by_cases h8 : rn isL f n s - s ≤ 8
      · right; left
        have hle : rn isL f n s ≤ n := rn_le (Nat.le_of_lt hs)
        have hgo : s + 1 ≤ rn isL f n s := by rw [rn_go hs hl]; exact rn_ge
        have hal : ∀ i, s ≤ i → i < s + (rn isL f n s - s) → isL (f i) = true := fun i h1 h2 => rn_all (f := f) (n := n) h1 (by omega)
        have hag : ∀ i, s ≤ i → i < s + (rn isL f n s - s) → isL (g i) = true := fun i h1 h2 => by rw [← hfg i (by omega)]; exact hal i h1 h2
        have e1 := vl_lN (f := f) (s := s) (rn isL f n s - s) hal
        have e2 := vm_lN (f := g) (s := s) (rn isL f n s - s) hag
        have e3 := lts_same (f := f) (g := g) (s := s) (rn isL f n s - s) (fun i h1 h2 => hfg i (by omega))
        refine ⟨by unfold tk1; rw [if_pos hs, if_pos hl, if_pos h8], by unfold mk1; rw [if_pos hs, ec, if_pos hl, hr, if_pos h8], lts f s (rn isL f n s - s), lts_gd _ hal, by rw [lts_len]; exact h8, by rw [lts_len]; omega, ?_, ?_, fun y => ?_⟩
        · unfold tw1; rw [if_pos hs, if_pos hl, if_pos h8, e1]
        · unfold mw1; rw [if_pos hs, ec, if_pos hl, hr, Nat.min_eq_right h8, e2, e3]
        · unfold tl1; rw [if_pos hs, if_pos hl, e1]
      · right; right; right; right
        exact ⟨by unfold tk1; rw [if_pos hs, if_pos hl, if_neg h8], by unfold tw1; rw [if_pos hs, if_pos hl, if_neg h8], by unfold mk1; rw [if_pos hs, ec, if_pos hl, hr, if_neg h8]⟩
    · by_cases hd : isD (f s) = true
      · have hr : rn isD g n s = rn isD f n s := r_same hfg
        by_cases h4 : rn isD f n s - s ≤ 4
        · right; right; left
          have hle : rn isD f n s ≤ n := rn_le (Nat.le_of_lt hs)
          refine ⟨by unfold tk1; rw [if_pos hs, if_neg hl, if_pos hd, if_pos h4], by unfold tw1; rw [if_pos hs, if_neg hl], by unfold mk1; rw [if_pos hs, ec, if_neg hl, if_pos hd, hr, if_pos h4], fun x => ?_⟩
          unfold tn1 mt1
          rw [if_pos hs, if_neg hl, if_pos hd, if_pos hs, ec, if_neg hl, if_pos hd, hr, Nat.min_eq_right h4]
          exact (vn_vd _ (fun i h1 h2 => hfg i (by omega))).symm
        · right; right; right; right
          exact ⟨by unfold tk1; rw [if_pos hs, if_neg hl, if_pos hd, if_neg h4], by unfold tw1; rw [if_pos hs, if_neg hl], by unfold mk1; rw [if_pos hs, ec, if_neg hl, if_pos hd, hr, if_neg h4]⟩
      · by_cases hS : isS (f s) = true
        · right; right; right; left
          have e : tk1 f n s = f s := by unfold tk1; rw [if_pos hs, if_neg hl, if_neg hd, if_pos hS]
          exact ⟨by rw [e]; exact hS, by unfold tw1; rw [if_pos hs, if_neg hl], by unfold mk1; rw [if_pos hs, ec, if_neg hl, if_neg hd, if_pos hS], by rw [e, ec]⟩
        · right; right; right; right
          exact ⟨by unfold tk1; rw [if_pos hs, if_neg hl, if_neg hd, if_neg hS], by unfold tw1; rw [if_pos hs, if_neg hl], by unfold mk1; rw [if_pos hs, ec, if_neg hl, if_neg hd, if_neg hS]⟩
  · left
    exact ⟨by unfold tk1; rw [if_neg hs], by unfold tw1; rw [if_neg hs], by unfold mk1; rw [if_neg hs]⟩
end TC
/-- the signs of the language -/
theorem isS_c {c : Int32} (h : isS c = true) : c = 40 ∨ c = 41 ∨ c = 60 ∨ c = 61 ∨ c = 43 ∨ c = 45 ∨ c = 42 ∨ c = 59 := by
  unfold isS at h
  simpa only [Bool.or_eq_true, decide_eq_true_eq, or_assoc] using h
theorem lN_pos {l : List Nat} (hg : gd l) (h8 : l.length ≤ 8) (h1 : 1 ≤ l.length) : ¬ lN (cd 32 l) = 0 := by
  intro e
  have h := lN_inj (cd_32 hg h8) (by decide) (e.trans (show (0 : Int64) = lN 0 from rfl))
  cases l with
  | nil => exact absurd h1 (by decide)
  | cons d r =>
    have h2 := hg d List.mem_cons_self
    have h : d + 32 * cd 32 r = 0 := h
    omega
section TC2
variable {f g : Nat → Int32} {n : Nat} {rs : mRS}
theorem w_eq (hfg : ∀ k, k < n → f k = g k) {i : Nat} (h2 : 2 ≤ i) (hi : i < 26) : F_m_isWord g n rs (w27.getD i 0) = if tw f n rs.2.1 = i then 1 else 0 := by
  unfold F_m_isWord
  rcases tcase hfg rs.2.1 with ⟨a, b, c⟩ | ⟨a, c, l, g1, g2, g3, b, d, _⟩ | ⟨a, b, c, _⟩ | ⟨a, b, c, _⟩ | ⟨a, b, c⟩
  · rw [c, b, if_neg (by decide), if_neg (by omega)]
  · rw [c, b, d, if_pos rfl]
    by_cases h : wof (lN (cd 32 l)) = i
    · rw [if_pos h, if_pos ((wof_word g1 g2 h2 hi).mp h)]
    · rw [if_neg h, if_neg (fun h9 => h ((wof_word g1 g2 h2 hi).mpr h9))]
  · rw [c, b, if_neg (by decide), if_neg (by omega)]
  · rw [c, b, if_neg (by decide), if_neg (by omega)]
  · rw [c, b, if_neg (by decide), if_neg (by omega)]
theorem s_eq (hfg : ∀ k, k < n → f k = g k) (hn : n ≤ 1000) {c : Int32} (hc : isS c = true) : F_m_isSign g n rs c = if tk f n rs.2.1 = c then 1 else 0 := by
  unfold F_m_isSign
  have hle : ts g n rs.2.1 ≤ n := ts_le
  rw [nI_clamp (by omega)]
  have hne := isS_ne hc
  rcases tcase hfg rs.2.1 with ⟨a, b, d⟩ | ⟨a, d, l, _⟩ | ⟨a, b, d, _⟩ | ⟨a, b, d, e⟩ | ⟨a, b, d⟩
  · rw [d, a, if_neg (by decide), if_neg (fun h => by rw [← h] at hc; exact absurd hc (by decide))]
  · rw [d, a, if_neg (by decide), if_neg (fun h => hne.1 h.symm)]
  · rw [d, a, if_neg (by decide), if_neg (fun h => hne.2 h.symm)]
  · rw [d, if_pos rfl, e]
  · rw [d, a, if_neg (by decide), if_neg (fun h => by rw [← h] at hc; exact absurd hc (by decide))]
theorem k0_eq (hfg : ∀ k, k < n → f k = g k) : mk g n rs.2.1 = 0 ↔ tk f n rs.2.1 = 0 := by
  rcases tcase hfg rs.2.1 with ⟨a, b, d⟩ | ⟨a, d, l, _⟩ | ⟨a, b, d, _⟩ | ⟨a, b, d, e⟩ | ⟨a, b, d⟩
  · rw [a, d]
  · rw [a, d] <;> decide
  · rw [a, d] <;> decide
  · rw [d]
    refine ⟨fun h => absurd h (by decide), fun h => ?_⟩
    rw [h] at a
    exact absurd a (by decide)
  · rw [a, d] <;> decide
theorem k2_eq (hfg : ∀ k, k < n → f k = g k) : mk g n rs.2.1 = 2 ↔ tk f n rs.2.1 = 2 := by
  rcases tcase hfg rs.2.1 with ⟨a, b, d⟩ | ⟨a, d, l, _⟩ | ⟨a, b, d, _⟩ | ⟨a, b, d, e⟩ | ⟨a, b, d⟩
  · rw [a, d] <;> decide
  · rw [a, d] <;> decide
  · rw [a, d]
  · rw [d]
    refine ⟨fun h => absurd h (by decide), fun h => ?_⟩
    rw [h] at a
    exact absurd a (by decide)
  · rw [a, d] <;> decide
theorem fact_eq (hfg : ∀ k, k < n → f k = g k) : F_m_fact g n rs = 0 ↔ F_isFact (tw f n rs.2.1) = 0 := by
  have e22 := w_eq (rs := rs) hfg (i := 22) (by decide) (by decide)
  have e23 := w_eq (rs := rs) hfg (i := 23) (by decide) (by decide)
  have e24 := w_eq (rs := rs) hfg (i := 24) (by decide) (by decide)
  have e25 := w_eq (rs := rs) hfg (i := 25) (by decide) (by decide)
  unfold F_m_isWord at e22 e23 e24 e25
  have t22 : w27.getD 22 0 = 1388945614 := by decide
  have t23 : w27.getD 23 0 = 360944 := by decide
  have t24 : w27.getD 24 0 = 8683934 := by decide
  have t25 : w27.getD 25 0 = 40595 := by decide
  rw [t22] at e22
  rw [t23] at e23
  rw [t24] at e24
  rw [t25] at e25
  unfold F_m_fact F_isFact
  by_cases hk : mk g n rs.2.1 = 1
  · rw [if_pos hk] at e22 e23 e24 e25 ⊢
    by_cases c1 : tw f n rs.2.1 = 22
    · rw [if_pos c1] at e22 ⊢
      by_cases d1 : mw g n rs.2.1 = 1388945614
      · rw [if_pos d1] <;> decide
      · rw [if_neg d1] at e22; exact absurd e22 (by decide)
    · rw [if_neg c1] at e22 ⊢
      by_cases d1 : mw g n rs.2.1 = 1388945614
      · rw [if_pos d1] at e22; exact absurd e22 (by decide)
      · rw [if_neg d1]
        by_cases c2 : tw f n rs.2.1 = 23
        · rw [if_pos c2] at e23 ⊢
          by_cases d2 : mw g n rs.2.1 = 360944
          · rw [if_pos d2] <;> decide
          · rw [if_neg d2] at e23; exact absurd e23 (by decide)
        · rw [if_neg c2] at e23 ⊢
          by_cases d2 : mw g n rs.2.1 = 360944
          · rw [if_pos d2] at e23; exact absurd e23 (by decide)
          · rw [if_neg d2]
            by_cases c3 : tw f n rs.2.1 = 24
            · rw [if_pos c3] at e24 ⊢
              by_cases d3 : mw g n rs.2.1 = 8683934
              · rw [if_pos d3] <;> decide
              · rw [if_neg d3] at e24; exact absurd e24 (by decide)
            · rw [if_neg c3] at e24 ⊢
              by_cases d3 : mw g n rs.2.1 = 8683934
              · rw [if_pos d3] at e24; exact absurd e24 (by decide)
              · rw [if_neg d3]
                by_cases c4 : tw f n rs.2.1 = 25
                · rw [if_pos c4] at e25 ⊢
                  by_cases d4 : mw g n rs.2.1 = 40595
                  · rw [if_pos d4] <;> decide
                  · rw [if_neg d4] at e25; exact absurd e25 (by decide)
                · rw [if_neg c4] at e25 ⊢
                  by_cases d4 : mw g n rs.2.1 = 40595
                  · rw [if_pos d4] at e25; exact absurd e25 (by decide)
                  · rw [if_neg d4]
  · rw [if_neg hk] at e22 e23 e24 e25 ⊢
    have n22 : ¬ tw f n rs.2.1 = 22 := fun h => by rw [if_pos h] at e22; exact absurd e22 (by decide)
    have n23 : ¬ tw f n rs.2.1 = 23 := fun h => by rw [if_pos h] at e23; exact absurd e23 (by decide)
    have n24 : ¬ tw f n rs.2.1 = 24 := fun h => by rw [if_pos h] at e24; exact absurd e24 (by decide)
    have n25 : ¬ tw f n rs.2.1 = 25 := fun h => by rw [if_pos h] at e25; exact absurd e25 (by decide)
    rw [if_neg n22, if_neg n23, if_neg n24, if_neg n25]
/-- a word that the language keeps, or no word -/
theorem kept_eq (hfg : ∀ k, k < n → f k = g k) : F_m_isKept g n rs = 0 ↔ ¬ kWm.getD (tw f n rs.2.1) 0 = 0 := by
  have hm : ∀ i : Nat, i < 26 → (kWm.getD i 0 = 0 ↔ i = 0 ∨ (2 ≤ i ∧ i ≤ 21)) := by decide +kernel
  have hlt : tw f n rs.2.1 < 26 := tw_lt
  rw [hm _ hlt]
  have e2 := w_eq (rs := rs) hfg (i := 2) (by decide) (by decide)
  rw [show w27.getD 2 0 = 7871591333 from by decide] at e2
  have e3 := w_eq (rs := rs) hfg (i := 3) (by decide) (by decide)
  rw [show w27.getD 3 0 = 12532058 from by decide] at e3
  have e4 := w_eq (rs := rs) hfg (i := 4) (by decide) (by decide)
  rw [show w27.getD 4 0 = 316163 from by decide] at e4
  have e5 := w_eq (rs := rs) hfg (i := 5) (by decide) (by decide)
  rw [show w27.getD 5 0 = 2546381602 from by decide] at e5
  have e6 := w_eq (rs := rs) hfg (i := 6) (by decide) (by decide)
  rw [show w27.getD 6 0 = 289912034 from by decide] at e6
  have e7 := w_eq (rs := rs) hfg (i := 7) (by decide) (by decide)
  rw [show w27.getD 7 0 = 10820768 from by decide] at e7
  have e8 := w_eq (rs := rs) hfg (i := 8) (by decide) (by decide)
  rw [show w27.getD 8 0 = 370000 from by decide] at e8
  have e9 := w_eq (rs := rs) hfg (i := 9) (by decide) (by decide)
  rw [show w27.getD 9 0 = 79329434 from by decide] at e9
  have e10 := w_eq (rs := rs) hfg (i := 10) (by decide) (by decide)
  rw [show w27.getD 10 0 = 3746728 from by decide] at e10
  have e11 := w_eq (rs := rs) hfg (i := 11) (by decide) (by decide)
  rw [show w27.getD 11 0 = 40187 from by decide] at e11
  have e12 := w_eq (rs := rs) hfg (i := 12) (by decide) (by decide)
  rw [show w27.getD 12 0 = 10793234 from by decide] at e12
  have e13 := w_eq (rs := rs) hfg (i := 13) (by decide) (by decide)
  rw [show w27.getD 13 0 = 139055 from by decide] at e13
  have e14 := w_eq (rs := rs) hfg (i := 14) (by decide) (by decide)
  rw [show w27.getD 14 0 = 326280 from by decide] at e14
  have e15 := w_eq (rs := rs) hfg (i := 15) (by decide) (by decide)
  rw [show w27.getD 15 0 = 8740238 from by decide] at e15
  have e16 := w_eq (rs := rs) hfg (i := 16) (by decide) (by decide)
  rw [show w27.getD 16 0 = 277680074 from by decide] at e16
  have e17 := w_eq (rs := rs) hfg (i := 17) (by decide) (by decide)
  rw [show w27.getD 17 0 = 49538619 from by decide] at e17
  have e18 := w_eq (rs := rs) hfg (i := 18) (by decide) (by decide)
  rw [show w27.getD 18 0 = 269726508 from by decide] at e18
  have e19 := w_eq (rs := rs) hfg (i := 19) (by decide) (by decide)
  rw [show w27.getD 19 0 = 10631 from by decide] at e19
  have e20 := w_eq (rs := rs) hfg (i := 20) (by decide) (by decide)
  rw [show w27.getD 20 0 = 1111 from by decide] at e20
  have e21 := w_eq (rs := rs) hfg (i := 21) (by decide) (by decide)
  rw [show w27.getD 21 0 = 423 from by decide] at e21
  unfold F_m_isWord at e2 e3 e4 e5 e6 e7 e8 e9 e10 e11 e12 e13 e14 e15 e16 e17 e18 e19 e20 e21
  unfold F_m_isKept
  by_cases hk : mk g n rs.2.1 = 1
  · have hz : ¬ tw f n rs.2.1 = 0 := by
      rcases tcase hfg rs.2.1 with ⟨_, _, d⟩ | ⟨_, _, l, g1, g2, g3, b, _, _⟩ | ⟨_, _, d, _⟩ | ⟨_, _, d, _⟩ | ⟨_, _, d⟩
      · rw [d] at hk; exact absurd hk (by decide)
      · rw [b]
        have := wof_ge _ (lN_pos g1 g2 g3)
        omega
      · rw [d] at hk; exact absurd hk (by decide)
      · rw [d] at hk; exact absurd hk (by decide)
      · rw [d] at hk; exact absurd hk (by decide)
    rw [if_pos hk] at e2 e3 e4 e5 e6 e7 e8 e9 e10 e11 e12 e13 e14 e15 e16 e17 e18 e19 e20 e21 ⊢
    by_cases d2 : mw g n rs.2.1 = 7871591333
    · rw [if_pos d2] at e2 ⊢
      have h9 : tw f n rs.2.1 = 2 := by
        by_cases h : tw f n rs.2.1 = 2
        · exact h
        · rw [if_neg h] at e2; exact absurd e2 (by decide)
      exact ⟨fun h => absurd h (by decide), fun h => absurd (.inr ⟨by omega, by omega⟩) h⟩
    · rw [if_neg d2] at e2 ⊢
      have n2 : ¬ tw f n rs.2.1 = 2 := fun h => by rw [if_pos h] at e2; exact absurd e2 (by decide)
      by_cases d3 : mw g n rs.2.1 = 12532058
      · rw [if_pos d3] at e3 ⊢
        have h9 : tw f n rs.2.1 = 3 := by
          by_cases h : tw f n rs.2.1 = 3
          · exact h
          · rw [if_neg h] at e3; exact absurd e3 (by decide)
        exact ⟨fun h => absurd h (by decide), fun h => absurd (.inr ⟨by omega, by omega⟩) h⟩
      · rw [if_neg d3] at e3 ⊢
        have n3 : ¬ tw f n rs.2.1 = 3 := fun h => by rw [if_pos h] at e3; exact absurd e3 (by decide)
        by_cases d4 : mw g n rs.2.1 = 316163
        · rw [if_pos d4] at e4 ⊢
          have h9 : tw f n rs.2.1 = 4 := by
            by_cases h : tw f n rs.2.1 = 4
            · exact h
            · rw [if_neg h] at e4; exact absurd e4 (by decide)
          exact ⟨fun h => absurd h (by decide), fun h => absurd (.inr ⟨by omega, by omega⟩) h⟩
        · rw [if_neg d4] at e4 ⊢
          have n4 : ¬ tw f n rs.2.1 = 4 := fun h => by rw [if_pos h] at e4; exact absurd e4 (by decide)
          by_cases d5 : mw g n rs.2.1 = 2546381602
          · rw [if_pos d5] at e5 ⊢
            have h9 : tw f n rs.2.1 = 5 := by
              by_cases h : tw f n rs.2.1 = 5
              · exact h
              · rw [if_neg h] at e5; exact absurd e5 (by decide)
            exact ⟨fun h => absurd h (by decide), fun h => absurd (.inr ⟨by omega, by omega⟩) h⟩
          · rw [if_neg d5] at e5 ⊢
            have n5 : ¬ tw f n rs.2.1 = 5 := fun h => by rw [if_pos h] at e5; exact absurd e5 (by decide)
            by_cases d6 : mw g n rs.2.1 = 289912034
            · rw [if_pos d6] at e6 ⊢
              have h9 : tw f n rs.2.1 = 6 := by
                by_cases h : tw f n rs.2.1 = 6
                · exact h
                · rw [if_neg h] at e6; exact absurd e6 (by decide)
              exact ⟨fun h => absurd h (by decide), fun h => absurd (.inr ⟨by omega, by omega⟩) h⟩
            · rw [if_neg d6] at e6 ⊢
              have n6 : ¬ tw f n rs.2.1 = 6 := fun h => by rw [if_pos h] at e6; exact absurd e6 (by decide)
              by_cases d7 : mw g n rs.2.1 = 10820768
              · rw [if_pos d7] at e7 ⊢
                have h9 : tw f n rs.2.1 = 7 := by
                  by_cases h : tw f n rs.2.1 = 7
                  · exact h
                  · rw [if_neg h] at e7; exact absurd e7 (by decide)
                exact ⟨fun h => absurd h (by decide), fun h => absurd (.inr ⟨by omega, by omega⟩) h⟩
              · rw [if_neg d7] at e7 ⊢
                have n7 : ¬ tw f n rs.2.1 = 7 := fun h => by rw [if_pos h] at e7; exact absurd e7 (by decide)
                by_cases d8 : mw g n rs.2.1 = 370000
                · rw [if_pos d8] at e8 ⊢
                  have h9 : tw f n rs.2.1 = 8 := by
                    by_cases h : tw f n rs.2.1 = 8
                    · exact h
                    · rw [if_neg h] at e8; exact absurd e8 (by decide)
                  exact ⟨fun h => absurd h (by decide), fun h => absurd (.inr ⟨by omega, by omega⟩) h⟩
                · rw [if_neg d8] at e8 ⊢
                  have n8 : ¬ tw f n rs.2.1 = 8 := fun h => by rw [if_pos h] at e8; exact absurd e8 (by decide)
                  by_cases d9 : mw g n rs.2.1 = 79329434
                  · rw [if_pos d9] at e9 ⊢
                    have h9 : tw f n rs.2.1 = 9 := by
                      by_cases h : tw f n rs.2.1 = 9
                      · exact h
                      · rw [if_neg h] at e9; exact absurd e9 (by decide)
                    exact ⟨fun h => absurd h (by decide), fun h => absurd (.inr ⟨by omega, by omega⟩) h⟩
                  · rw [if_neg d9] at e9 ⊢
                    have n9 : ¬ tw f n rs.2.1 = 9 := fun h => by rw [if_pos h] at e9; exact absurd e9 (by decide)
                    by_cases d10 : mw g n rs.2.1 = 3746728
                    · rw [if_pos d10] at e10 ⊢
                      have h9 : tw f n rs.2.1 = 10 := by
                        by_cases h : tw f n rs.2.1 = 10
                        · exact h
                        · rw [if_neg h] at e10; exact absurd e10 (by decide)
                      exact ⟨fun h => absurd h (by decide), fun h => absurd (.inr ⟨by omega, by omega⟩) h⟩
                    · rw [if_neg d10] at e10 ⊢
                      have n10 : ¬ tw f n rs.2.1 = 10 := fun h => by rw [if_pos h] at e10; exact absurd e10 (by decide)
                      by_cases d11 : mw g n rs.2.1 = 40187
                      · rw [if_pos d11] at e11 ⊢
                        have h9 : tw f n rs.2.1 = 11 := by
                          by_cases h : tw f n rs.2.1 = 11
                          · exact h
                          · rw [if_neg h] at e11; exact absurd e11 (by decide)
                        exact ⟨fun h => absurd h (by decide), fun h => absurd (.inr ⟨by omega, by omega⟩) h⟩
                      · rw [if_neg d11] at e11 ⊢
                        have n11 : ¬ tw f n rs.2.1 = 11 := fun h => by rw [if_pos h] at e11; exact absurd e11 (by decide)
                        by_cases d12 : mw g n rs.2.1 = 10793234
                        · rw [if_pos d12] at e12 ⊢
                          have h9 : tw f n rs.2.1 = 12 := by
                            by_cases h : tw f n rs.2.1 = 12
                            · exact h
                            · rw [if_neg h] at e12; exact absurd e12 (by decide)
                          exact ⟨fun h => absurd h (by decide), fun h => absurd (.inr ⟨by omega, by omega⟩) h⟩
                        · rw [if_neg d12] at e12 ⊢
                          have n12 : ¬ tw f n rs.2.1 = 12 := fun h => by rw [if_pos h] at e12; exact absurd e12 (by decide)
                          by_cases d13 : mw g n rs.2.1 = 139055
                          · rw [if_pos d13] at e13 ⊢
                            have h9 : tw f n rs.2.1 = 13 := by
                              by_cases h : tw f n rs.2.1 = 13
                              · exact h
                              · rw [if_neg h] at e13; exact absurd e13 (by decide)
                            exact ⟨fun h => absurd h (by decide), fun h => absurd (.inr ⟨by omega, by omega⟩) h⟩
                          · rw [if_neg d13] at e13 ⊢
                            have n13 : ¬ tw f n rs.2.1 = 13 := fun h => by rw [if_pos h] at e13; exact absurd e13 (by decide)
                            by_cases d14 : mw g n rs.2.1 = 326280
                            · rw [if_pos d14] at e14 ⊢
                              have h9 : tw f n rs.2.1 = 14 := by
                                by_cases h : tw f n rs.2.1 = 14
                                · exact h
                                · rw [if_neg h] at e14; exact absurd e14 (by decide)
                              exact ⟨fun h => absurd h (by decide), fun h => absurd (.inr ⟨by omega, by omega⟩) h⟩
                            · rw [if_neg d14] at e14 ⊢
                              have n14 : ¬ tw f n rs.2.1 = 14 := fun h => by rw [if_pos h] at e14; exact absurd e14 (by decide)
                              by_cases d15 : mw g n rs.2.1 = 8740238
                              · rw [if_pos d15] at e15 ⊢
                                have h9 : tw f n rs.2.1 = 15 := by
                                  by_cases h : tw f n rs.2.1 = 15
                                  · exact h
                                  · rw [if_neg h] at e15; exact absurd e15 (by decide)
                                exact ⟨fun h => absurd h (by decide), fun h => absurd (.inr ⟨by omega, by omega⟩) h⟩
                              · rw [if_neg d15] at e15 ⊢
                                have n15 : ¬ tw f n rs.2.1 = 15 := fun h => by rw [if_pos h] at e15; exact absurd e15 (by decide)
                                by_cases d16 : mw g n rs.2.1 = 277680074
                                · rw [if_pos d16] at e16 ⊢
                                  have h9 : tw f n rs.2.1 = 16 := by
                                    by_cases h : tw f n rs.2.1 = 16
                                    · exact h
                                    · rw [if_neg h] at e16; exact absurd e16 (by decide)
                                  exact ⟨fun h => absurd h (by decide), fun h => absurd (.inr ⟨by omega, by omega⟩) h⟩
                                · rw [if_neg d16] at e16 ⊢
                                  have n16 : ¬ tw f n rs.2.1 = 16 := fun h => by rw [if_pos h] at e16; exact absurd e16 (by decide)
                                  by_cases d17 : mw g n rs.2.1 = 49538619
                                  · rw [if_pos d17] at e17 ⊢
                                    have h9 : tw f n rs.2.1 = 17 := by
                                      by_cases h : tw f n rs.2.1 = 17
                                      · exact h
                                      · rw [if_neg h] at e17; exact absurd e17 (by decide)
                                    exact ⟨fun h => absurd h (by decide), fun h => absurd (.inr ⟨by omega, by omega⟩) h⟩
                                  · rw [if_neg d17] at e17 ⊢
                                    have n17 : ¬ tw f n rs.2.1 = 17 := fun h => by rw [if_pos h] at e17; exact absurd e17 (by decide)
                                    by_cases d18 : mw g n rs.2.1 = 269726508
                                    · rw [if_pos d18] at e18 ⊢
                                      have h9 : tw f n rs.2.1 = 18 := by
                                        by_cases h : tw f n rs.2.1 = 18
                                        · exact h
                                        · rw [if_neg h] at e18; exact absurd e18 (by decide)
                                      exact ⟨fun h => absurd h (by decide), fun h => absurd (.inr ⟨by omega, by omega⟩) h⟩
                                    · rw [if_neg d18] at e18 ⊢
                                      have n18 : ¬ tw f n rs.2.1 = 18 := fun h => by rw [if_pos h] at e18; exact absurd e18 (by decide)
                                      by_cases d19 : mw g n rs.2.1 = 10631
                                      · rw [if_pos d19] at e19 ⊢
                                        have h9 : tw f n rs.2.1 = 19 := by
                                          by_cases h : tw f n rs.2.1 = 19
                                          · exact h
                                          · rw [if_neg h] at e19; exact absurd e19 (by decide)
                                        exact ⟨fun h => absurd h (by decide), fun h => absurd (.inr ⟨by omega, by omega⟩) h⟩
                                      · rw [if_neg d19] at e19 ⊢
                                        have n19 : ¬ tw f n rs.2.1 = 19 := fun h => by rw [if_pos h] at e19; exact absurd e19 (by decide)
                                        by_cases d20 : mw g n rs.2.1 = 1111
                                        · rw [if_pos d20] at e20 ⊢
                                          have h9 : tw f n rs.2.1 = 20 := by
                                            by_cases h : tw f n rs.2.1 = 20
                                            · exact h
                                            · rw [if_neg h] at e20; exact absurd e20 (by decide)
                                          exact ⟨fun h => absurd h (by decide), fun h => absurd (.inr ⟨by omega, by omega⟩) h⟩
                                        · rw [if_neg d20] at e20 ⊢
                                          have n20 : ¬ tw f n rs.2.1 = 20 := fun h => by rw [if_pos h] at e20; exact absurd e20 (by decide)
                                          by_cases d21 : mw g n rs.2.1 = 423
                                          · rw [if_pos d21] at e21 ⊢
                                            have h9 : tw f n rs.2.1 = 21 := by
                                              by_cases h : tw f n rs.2.1 = 21
                                              · exact h
                                              · rw [if_neg h] at e21; exact absurd e21 (by decide)
                                            exact ⟨fun h => absurd h (by decide), fun h => absurd (.inr ⟨by omega, by omega⟩) h⟩
                                          · rw [if_neg d21] at e21 ⊢
                                            have n21 : ¬ tw f n rs.2.1 = 21 := fun h => by rw [if_pos h] at e21; exact absurd e21 (by decide)
                                            refine ⟨fun _ h => ?_, fun _ => rfl⟩
                                            omega
  · have hz : tw f n rs.2.1 = 0 := by
      rcases tcase hfg rs.2.1 with ⟨_, b, _⟩ | ⟨_, d, _⟩ | ⟨_, b, _, _⟩ | ⟨_, b, _, _⟩ | ⟨_, b, _⟩
      · exact b
      · exact absurd d hk
      · exact b
      · exact b
      · exact b
    rw [if_neg hk]
    exact ⟨fun h => absurd h (by decide), fun h => absurd (.inl hz) h⟩
/-- mayName: a word, whose letters both hold -/
theorem name_w (hfg : ∀ k, k < n → f k = g k) {p : Nat} (h : ¬ kWm.getD (tw f n p) 0 = 0) : tk f n p = 1 := by
  rcases tcase hfg p with ⟨_, b, _⟩ | ⟨a, _⟩ | ⟨_, b, _, _⟩ | ⟨_, b, _, _⟩ | ⟨_, b, _⟩
  · rw [b] at h; exact absurd (by decide) h
  · exact a
  · rw [b] at h; exact absurd (by decide) h
  · rw [b] at h; exact absurd (by decide) h
  · rw [b] at h; exact absurd (by decide) h
end TC2
/-- what the class's reader holds of the token: its number, its letters -/
def cur (f g : Nat → Int32) (n : Nat) (rs : rRS) : Prop := (tk f n rs.2.1 = 2 → rs.2.2.1 = mt g n rs.2.1) ∧ (tk f n rs.2.1 = 1 → nR rs.2.2.2 (mw g n rs.2.1))
theorem cur_of {f g : Nat → Int32} {n : Nat} (hfg : ∀ k, k < n → f k = g k) {F : Int32} {p : Nat} {x : Int32} {y : Int64} : cur f g n (F, p, tn f n p x, tl f n p y) := by
  refine ⟨fun h => ?_, fun h => ?_⟩
  · have h : tk f n p = 2 := h
    show tn f n p x = mt g n p
    rcases tcase hfg p with ⟨a, _⟩ | ⟨a, _⟩ | ⟨_, _, _, d⟩ | ⟨a, _⟩ | ⟨a, _⟩
    · rw [a] at h; exact absurd h (by decide)
    · rw [a] at h; exact absurd h (by decide)
    · exact d x
    · rw [h] at a; exact absurd a (by decide)
    · rw [a] at h; exact absurd h (by decide)
  · have h : tk f n p = 1 := h
    show nR (tl f n p y) (mw g n p)
    rcases tcase hfg p with ⟨a, _⟩ | ⟨_, _, l, g1, g2, _, _, d, e⟩ | ⟨a, _⟩ | ⟨a, _⟩ | ⟨a, _⟩
    · rw [a] at h; exact absurd h (by decide)
    · exact ⟨l, g1, g2, e y, d⟩
    · rw [a] at h; exact absurd h (by decide)
    · rw [h] at a; exact absurd a (by decide)
    · rw [a] at h; exact absurd h (by decide)
theorem cur_av {f g : Nat → Int32} {n : Nat} (hfg : ∀ k, k < n → f k = g k) {rs : rRS} : cur f g n (av f n rs) := cur_of hfg

/-! my own rows: intervals, over Int32 and Int64 -/
def i32lo : Int := -2147483648
def i32hi : Int := 2147483647
def i64lo : Int := -9223372036854775808
def i64hi : Int := 9223372036854775807
abbrev qIv : Type := Int × Int
def qIn (p : qIv) (x : Int) : Prop := p.1 ≤ x ∧ x ≤ p.2
def qle (a b : Int) : Bool := decide (a ≤ b)
def qmin (a b : Int) : Int := if a ≤ b then a else b
def qmax (a b : Int) : Int := if a ≤ b then b else a
def qclip (p : qIv) : qIv := if qle i32lo p.1 && qle p.2 i32hi then p else (i32lo, i32hi)
def qclipL (p : qIv) : qIv := if qle i64lo p.1 && qle p.2 i64hi then p else (i64lo, i64hi)
theorem q_rng (x : Int32) : i32lo ≤ x.toInt ∧ x.toInt ≤ i32hi := ⟨by have := x.le_toInt; simpa [i32lo] using this, by have := x.toInt_lt; simp [i32hi]; omega⟩
theorem q_rngL (x : Int64) : i64lo ≤ x.toInt ∧ x.toInt ≤ i64hi := ⟨by have := x.le_toInt; simpa [i64lo] using this, by have := x.toInt_lt; simp [i64hi]; omega⟩
theorem q_full (x : Int32) : qIn (i32lo, i32hi) x.toInt := q_rng x
theorem q_fullL (x : Int64) : qIn (i64lo, i64hi) x.toInt := q_rngL x
theorem q_bmod {z : Int} (h1 : i32lo ≤ z) (h2 : z ≤ i32hi) : z.bmod (2 ^ 32) = z := by
  simp only [i32lo, i32hi] at h1 h2
  exact Int.bmod_eq_of_le (by omega) (by omega)
theorem q_bmodL {z : Int} (h1 : i64lo ≤ z) (h2 : z ≤ i64hi) : z.bmod (2 ^ 64) = z := by
  simp only [i64lo, i64hi] at h1 h2
  exact Int.bmod_eq_of_le (by omega) (by omega)
theorem q_clip {p : qIv} {z : Int} {x : Int32} (hx : x.toInt = z.bmod (2 ^ 32)) (h : qIn p z) : qIn (qclip p) x.toInt := by
  unfold qclip
  split
  · rename_i h9
    simp only [qle, Bool.and_eq_true, decide_eq_true_eq] at h9
    rw [hx, q_bmod (Int.le_trans h9.1 h.1) (Int.le_trans h.2 h9.2)]; exact h
  · exact q_full x
theorem q_clipL {p : qIv} {z : Int} {x : Int64} (hx : x.toInt = z.bmod (2 ^ 64)) (h : qIn p z) : qIn (qclipL p) x.toInt := by
  unfold qclipL
  split
  · rename_i h9
    simp only [qle, Bool.and_eq_true, decide_eq_true_eq] at h9
    rw [hx, q_bmodL (Int.le_trans h9.1 h.1) (Int.le_trans h.2 h9.2)]; exact h
  · exact q_fullL x
/-- sums -/
def qadd (a b : qIv) : qIv := (a.1 + b.1, a.2 + b.2)
def qsub (a b : qIv) : qIv := (a.1 - b.2, a.2 - b.1)
theorem q_add {a b : qIv} {x y : Int} (h1 : qIn a x) (h2 : qIn b y) : qIn (qadd a b) (x + y) := by
  simp only [qIn, qadd] at *; omega
theorem q_sub {a b : qIv} {x y : Int} (h1 : qIn a x) (h2 : qIn b y) : qIn (qsub a b) (x - y) := by
  simp only [qIn, qsub] at *; omega
/-- products -/
def qmul1 (a : qIv) (y : Int) : qIv := if qle 0 y then (a.1 * y, a.2 * y) else (a.2 * y, a.1 * y)
theorem q_mul1 {a : qIv} {x : Int} (h : qIn a x) (y : Int) : qIn (qmul1 a y) (x * y) := by
  simp only [qIn, qmul1, qle] at *
  by_cases h9 : 0 ≤ y
  · simp only [h9, decide_true, if_true]
    exact ⟨Int.mul_le_mul_of_nonneg_right h.1 h9, Int.mul_le_mul_of_nonneg_right h.2 h9⟩
  · simp only [h9, decide_false, Bool.false_eq_true, if_false]
    exact ⟨Int.mul_le_mul_of_nonpos_right h.2 (by omega), Int.mul_le_mul_of_nonpos_right h.1 (by omega)⟩
def qmul (a b : qIv) : qIv := (qmin (qmul1 a b.1).1 (qmul1 a b.2).1, qmax (qmul1 a b.1).2 (qmul1 a b.2).2)
theorem q_mul {a b : qIv} {x y : Int} (h1 : qIn a x) (h2 : qIn b y) : qIn (qmul a b) (x * y) := by
  have e1 := q_mul1 h1 b.1
  have e2 := q_mul1 h1 b.2
  have h3 : (x * b.1 ≤ x * y ∧ x * y ≤ x * b.2) ∨ (x * b.2 ≤ x * y ∧ x * y ≤ x * b.1) := by
    by_cases h9 : 0 ≤ x
    · exact .inl ⟨Int.mul_le_mul_of_nonneg_left h2.1 h9, Int.mul_le_mul_of_nonneg_left h2.2 h9⟩
    · exact .inr ⟨Int.mul_le_mul_of_nonpos_left (by omega) h2.2, Int.mul_le_mul_of_nonpos_left (by omega) h2.1⟩
  simp only [qIn, qmul, qmin, qmax] at *
  constructor
  · split <;> omega
  · split <;> omega
/-- bits -/
def qand (a b : qIv) : qIv :=
  if decide (a.1 = a.2) && decide (b.1 = b.2) && qle 0 a.1 && qle 0 b.1 && qle a.1 i32hi && qle b.1 i32hi then (((a.1.toNat &&& b.1.toNat : Nat) : Int), ((a.1.toNat &&& b.1.toNat : Nat) : Int))
  else if qle 0 a.1 then (if qle 0 b.1 then (0, qmin a.2 b.2) else (0, a.2)) else (if qle 0 b.1 then (0, b.2) else (i32lo, i32hi))
theorem q_nn {x : Int32} (h : 0 ≤ x.toInt) : x.toInt = (x.toBitVec.toNat : Int) ∧ x.toBitVec.toNat < 2 ^ 31 := by
  have h1 : x.toInt = x.toBitVec.toInt := rfl
  rw [h1] at h ⊢
  rw [BitVec.toInt_eq_toNat_cond] at h ⊢
  have := x.toBitVec.isLt
  split at h <;> split <;> omega
theorem q_nn2 {x : Int32} (h : x.toBitVec.toNat < 2 ^ 31) : x.toInt = (x.toBitVec.toNat : Int) := by
  have h1 : x.toInt = x.toBitVec.toInt := rfl
  rw [h1, BitVec.toInt_eq_toNat_cond]
  split <;> omega
theorem q_and_r {x y : Int32} (h : 0 ≤ y.toInt) : 0 ≤ (x &&& y).toInt ∧ (x &&& y).toInt ≤ y.toInt := by
  obtain ⟨e1, e2⟩ := q_nn h
  have h1 : (x &&& y).toBitVec.toNat = x.toBitVec.toNat &&& y.toBitVec.toNat := by simp
  have h2 : x.toBitVec.toNat &&& y.toBitVec.toNat ≤ y.toBitVec.toNat := Nat.and_le_right
  rw [q_nn2 (x := x &&& y) (by omega)]
  omega
theorem q_and_l {x y : Int32} (h : 0 ≤ x.toInt) : 0 ≤ (x &&& y).toInt ∧ (x &&& y).toInt ≤ x.toInt := by
  rw [show x &&& y = y &&& x from Int32.and_comm x y]; exact q_and_r h
theorem q_and {a b : qIv} {x y : Int32} (h1 : qIn a x.toInt) (h2 : qIn b y.toInt) : qIn (qand a b) (x &&& y).toInt := by
  unfold qand
  split
  · rename_i h9
    simp only [qle, Bool.and_eq_true, decide_eq_true_eq] at h9
    obtain ⟨⟨⟨⟨⟨g1, g2⟩, g3⟩, g4⟩, g5⟩, g6⟩ := h9
    simp only [qIn] at *
    obtain ⟨u1, u2⟩ := q_nn (x := x) (by omega)
    obtain ⟨w1, w2⟩ := q_nn (x := y) (by omega)
    have h3 : (x &&& y).toBitVec.toNat = x.toBitVec.toNat &&& y.toBitVec.toNat := by simp
    have h4 : x.toBitVec.toNat &&& y.toBitVec.toNat ≤ y.toBitVec.toNat := Nat.and_le_right
    have e3 : a.1.toNat = x.toBitVec.toNat := by omega
    have e4 : b.1.toNat = y.toBitVec.toNat := by omega
    rw [q_nn2 (x := x &&& y) (by omega), h3, e3, e4]
    exact ⟨Int.le_refl _, Int.le_refl _⟩
  simp only [qIn] at *
  by_cases ha : (0 : Int) ≤ a.1
  · have e1 := q_and_l (x := x) (y := y) (by omega)
    by_cases hb : (0 : Int) ≤ b.1
    · have e2 := q_and_r (x := x) (y := y) (by omega)
      simp only [qle, ha, hb, decide_true, if_true, qmin]
      split <;> omega
    · simp only [qle, ha, hb, decide_true, decide_false, if_true, Bool.false_eq_true, if_false]; omega
  · by_cases hb : (0 : Int) ≤ b.1
    · have e2 := q_and_r (x := x) (y := y) (by omega)
      simp only [qle, ha, hb, decide_true, decide_false, if_true, Bool.false_eq_true, if_false]; omega
    · simp only [qle, ha, hb, decide_false, Bool.false_eq_true, if_false]; exact q_rng _
def qpow (n : Int) : Int := ((2 ^ (Nat.log2 n.toNat + 1) : Nat) : Int) - 1
theorem q_pow (n : Nat) : n < 2 ^ (Nat.log2 n + 1) := Nat.lt_log2_self
def qor (a b : qIv) : qIv := if qle 0 a.1 && qle 0 b.1 then (0, qpow (qmax a.2 b.2)) else (i32lo, i32hi)
theorem q_or_n {x y : Int32} {M : Int} (h1 : 0 ≤ x.toInt) (h2 : 0 ≤ y.toInt) (h3 : x.toInt ≤ M) (h4 : y.toInt ≤ M) (hM : M ≤ i32hi) (z : Int32) (hz : z.toBitVec.toNat = x.toBitVec.toNat ||| y.toBitVec.toNat ∨ z.toBitVec.toNat = x.toBitVec.toNat ^^^ y.toBitVec.toNat) : 0 ≤ z.toInt ∧ z.toInt ≤ qpow M := by
  obtain ⟨e1, e2⟩ := q_nn h1
  obtain ⟨f1, f2⟩ := q_nn h2
  have hM0 : (M.toNat : Int) = M := Int.toNat_of_nonneg (by omega)
  have l1 : x.toBitVec.toNat < 2 ^ (Nat.log2 M.toNat + 1) := Nat.lt_of_le_of_lt (by omega) (q_pow M.toNat)
  have l2 : y.toBitVec.toNat < 2 ^ (Nat.log2 M.toNat + 1) := Nat.lt_of_le_of_lt (by omega) (q_pow M.toNat)
  have l3 : z.toBitVec.toNat < 2 ^ (Nat.log2 M.toNat + 1) := by
    rcases hz with h | h
    · rw [h]; exact Nat.or_lt_two_pow l1 l2
    · rw [h]; exact Nat.xor_lt_two_pow l1 l2
  have l4 : z.toBitVec.toNat < 2 ^ 31 := by
    rcases hz with h | h
    · rw [h]; exact Nat.or_lt_two_pow e2 f2
    · rw [h]; exact Nat.xor_lt_two_pow e2 f2
  rw [q_nn2 l4]
  unfold qpow
  omega
theorem q_or {a b : qIv} {x y : Int32} (h1 : qIn a x.toInt) (h2 : qIn b y.toInt) : qIn (qor a b) (x ||| y).toInt := by
  unfold qor
  simp only [qIn] at *
  have rx := q_rng x
  have ry := q_rng y
  by_cases ha : (0 : Int) ≤ a.1 ∧ (0 : Int) ≤ b.1
  · simp only [qle, ha.1, ha.2, decide_true, Bool.and_self, if_true]
    by_cases hM : qmax a.2 b.2 ≤ i32hi
    · exact q_or_n (x := x) (y := y) (by omega) (by omega) (by simp only [qmax]; split <;> omega) (by simp only [qmax]; split <;> omega) hM _ (.inl (by simp))
    · have e1 := q_or_n (x := x) (y := y) (M := i32hi) (by omega) (by omega) (by omega) (by omega) (Int.le_refl _) (x ||| y) (.inl (by simp))
      refine ⟨e1.1, Int.le_trans e1.2 ?_⟩
      unfold qpow
      have : i32hi.toNat ≤ (qmax a.2 b.2).toNat := Int.toNat_le_toNat (by omega)
      have h9 : Nat.log2 i32hi.toNat = 30 := by decide +kernel
      have h8 : 2 ^ 30 ≤ (qmax a.2 b.2).toNat := Nat.le_trans (by decide +kernel) this
      have h7 : 30 ≤ Nat.log2 (qmax a.2 b.2).toNat := (Nat.le_log2 (by omega)).mpr h8
      have h6 : 2 ^ 31 ≤ 2 ^ (Nat.log2 (qmax a.2 b.2).toNat + 1) := Nat.pow_le_pow_right (by omega) (by omega)
      rw [h9]
      omega
  · have : (qle 0 a.1 && qle 0 b.1) = false := by
      simp only [qle, Bool.and_eq_false_iff, decide_eq_false_iff_not]; omega
    rw [this]
    exact q_rng _

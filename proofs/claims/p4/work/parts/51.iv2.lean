def qxor (a b : qIv) : qIv := if qle 0 a.1 && qle 0 b.1 && qle a.2 i32hi && qle b.2 i32hi then (0, qpow (qmax a.2 b.2)) else (i32lo, i32hi)
theorem q_xor {a b : qIv} {x y : Int32} (h1 : qIn a x.toInt) (h2 : qIn b y.toInt) : qIn (qxor a b) (x ^^^ y).toInt := by
  unfold qxor
  simp only [qIn] at *
  split
  · rename_i h
    simp only [qle, Bool.and_eq_true, decide_eq_true_eq] at h
    exact q_or_n (x := x) (y := y) (by omega) (by omega) (by simp only [qmax]; split <;> omega) (by simp only [qmax]; split <;> omega) (by simp only [qmax]; split <;> omega) _ (.inr (by simp))
  · exact q_rng _
/-- shifts by y of 0 .. 31 -/
theorem q_shk {y : Int32} (h0 : 0 ≤ y.toInt) (h1 : y.toInt ≤ 31) : y &&& 31 = y ∧ (y.toBitVec.smod 32).toNat = y.toInt.toNat := by
  obtain ⟨e1, e2⟩ := q_nn h0
  have h3 : y.toBitVec.toNat < 32 := by omega
  have h4 : y.toInt.toNat = y.toBitVec.toNat := by omega
  have key : ∀ n : Nat, n < 32 → (BitVec.ofNat 32 n &&& 31#32 = BitVec.ofNat 32 n) ∧ ((BitVec.ofNat 32 n).smod 32).toNat = n := by decide +kernel
  have h5 := key _ h3
  rw [BitVec.ofNat_toNat, BitVec.setWidth_eq] at h5
  refine ⟨Int32.toBitVec_inj.mp ?_, by rw [h4]; exact h5.2⟩
  exact h5.1
def qshl (a b : qIv) : qIv := if qle 0 a.1 && qle 0 b.1 && qle b.2 31 && qle (a.2 * 2 ^ b.2.toNat) i32hi then (a.1 * 2 ^ b.1.toNat, a.2 * 2 ^ b.2.toNat) else (i32lo, i32hi)
theorem q_shl {a b : qIv} {x y : Int32} (h1 : qIn a x.toInt) (h2 : qIn b y.toInt) : qIn (qshl a b) (x <<< (y &&& 31)).toInt := by
  unfold qshl
  split
  · rename_i h
    simp only [qle, Bool.and_eq_true, decide_eq_true_eq] at h
    simp only [qIn] at *
    obtain ⟨⟨⟨g1, g2⟩, g3⟩, g4⟩ := h
    obtain ⟨k1, k2⟩ := q_shk (y := y) (by omega) (by omega)
    rw [k1]
    have e := pk_shl x y _ k2
    obtain ⟨x1, x2⟩ := q_nn (x := x) (by omega)
    have m1 : (2 : Int) ^ b.1.toNat ≤ 2 ^ y.toInt.toNat := by exact_mod_cast Nat.pow_le_pow_right (n := 2) (by omega) (by omega)
    have m2 : (2 : Int) ^ y.toInt.toNat ≤ 2 ^ b.2.toNat := by exact_mod_cast Nat.pow_le_pow_right (n := 2) (by omega) (by omega)
    have m0 : (0 : Int) < 2 ^ b.1.toNat := Int.pow_pos (by omega)
    have up : x.toInt * 2 ^ y.toInt.toNat ≤ a.2 * 2 ^ b.2.toNat := Int.mul_le_mul h1.2 m2 (by omega) (by omega)
    have lo : a.1 * 2 ^ b.1.toNat ≤ x.toInt * 2 ^ y.toInt.toNat := Int.mul_le_mul h1.1 m1 (by omega) (by omega)
    have e3 : ((x.toBitVec.toNat * 2 ^ y.toInt.toNat : Nat) : Int) = x.toInt * 2 ^ y.toInt.toNat := by rw [x1]; simp
    have e4 : x.toBitVec.toNat * 2 ^ y.toInt.toNat < 2 ^ 31 := by simp only [i32hi] at g4; omega
    rw [Nat.mod_eq_of_lt (by omega)] at e
    rw [q_nn2 (by rw [e]; exact e4), e]
    omega
  · exact q_full _
def qshr (a b : qIv) : qIv :=
  if qle 0 b.1 && qle b.2 31 && decide (b.1 = b.2) then (a.1 >>> b.1.toNat, a.2 >>> b.1.toNat) else (qmin a.1 0, qmax a.2 0)
theorem q_shrk (x y : Int32) : ∃ k : Nat, (x >>> (y &&& 31)).toInt = x.toInt >>> k := ⟨_, pk_shr x (y &&& 31) _ rfl⟩
theorem q_shr_b (z : Int) (k : Nat) : (0 ≤ z → 0 ≤ z >>> k ∧ z >>> k ≤ z) ∧ (z < 0 → z ≤ z >>> k ∧ z >>> k < 0) := by
  rw [Int.shiftRight_eq_div_pow]
  have hp : (0 : Int) < ((2 ^ k : Nat) : Int) := by exact_mod_cast Nat.two_pow_pos k
  constructor
  · intro h
    exact ⟨Int.ediv_nonneg h (by omega), Int.ediv_le_self _ h⟩
  · intro h
    refine ⟨?_, Int.ediv_neg_of_neg_of_pos h hp⟩
    rw [Int.le_ediv_iff_mul_le hp]
    have : (1 : Int) ≤ ((2 ^ k : Nat) : Int) := hp
    have := Int.mul_le_mul_of_nonpos_left (a := z) (by omega : z ≤ 0) this
    omega
theorem q_shr_m {z w : Int} (h : z ≤ w) (k : Nat) : z >>> k ≤ w >>> k := by
  rw [Int.shiftRight_eq_div_pow, Int.shiftRight_eq_div_pow]
  exact Int.ediv_le_ediv (by exact_mod_cast Nat.two_pow_pos k) h
theorem q_shr {a b : qIv} {x y : Int32} (h1 : qIn a x.toInt) (h2 : qIn b y.toInt) : qIn (qshr a b) (x >>> (y &&& 31)).toInt := by
  unfold qshr
  simp only [qIn] at *
  split
  · rename_i h
    simp only [qle, Bool.and_eq_true, decide_eq_true_eq] at h
    obtain ⟨⟨g1, g2⟩, g3⟩ := h
    obtain ⟨k1, k2⟩ := q_shk (y := y) (by omega) (by omega)
    rw [k1, pk_shr x y _ k2, show y.toInt = b.1 by omega]
    exact ⟨q_shr_m h1.1 _, q_shr_m h1.2 _⟩
  · obtain ⟨k, e⟩ := q_shrk x y
    rw [e]
    have h9 := q_shr_b x.toInt k
    simp only [qmin, qmax]
    by_cases hx : 0 ≤ x.toInt
    · have := h9.1 hx
      constructor <;> split <;> omega
    · have := h9.2 (by omega)
      constructor <;> split <;> omega
def qushr (a b : qIv) : qIv :=
  if qle 0 a.1 then (0, a.2) else if qle 1 b.1 && qle b.2 31 then (0, i32hi) else (i32lo, i32hi)
theorem q_ushr {a b : qIv} {x y : Int32} (h1 : qIn a x.toInt) (h2 : qIn b y.toInt) : qIn (qushr a b) (x.toUInt32 >>> (y.toUInt32 &&& Int32.toUInt32 31)).toInt32.toInt := by
  unfold qushr
  have e := pk_ushr x y _ rfl
  generalize ((y.toUInt32 &&& Int32.toUInt32 31).toBitVec % 32).toNat = k at e
  simp only [qIn] at *
  split
  · rename_i h
    simp only [qle, decide_eq_true_eq] at h
    obtain ⟨x1, x2⟩ := q_nn (x := x) (by omega)
    have : x.toBitVec.toNat / 2 ^ k ≤ x.toBitVec.toNat := Nat.div_le_self _ _
    rw [q_nn2 (by rw [e]; omega), e]
    omega
  · split
    · exact q_rng _ |>.elim (fun h70 h => ⟨by
        rename_i h8 h9
        simp only [qle, Bool.and_eq_true, decide_eq_true_eq] at h9
        have e' := pk_ushr x y _ rfl
        obtain ⟨y1, y2⟩ := q_nn (x := y) (by omega)
        have h3 : y.toBitVec.toNat < 32 := by omega
        have key : ∀ n : Nat, n < 32 → (((BitVec.ofNat 32 n) &&& 31#32) % 32).toNat = n := by decide +kernel
        have h5 := key _ h3
        rw [BitVec.ofNat_toNat, BitVec.setWidth_eq] at h5
        have h6 : ((y.toUInt32 &&& Int32.toUInt32 31).toBitVec % 32).toNat = y.toBitVec.toNat := h5
        rw [h6] at e'
        have h7 : x.toBitVec.toNat / 2 ^ y.toBitVec.toNat ≤ x.toBitVec.toNat / 2 ^ 1 := Nat.div_le_div_left (Nat.pow_le_pow_right (by omega) (by omega)) (by omega)
        have := x.toBitVec.isLt
        rw [q_nn2 (by rw [e']; omega)]
        omega, h⟩)
    · exact q_rng _
/-- quotients -/
def qdiv (a b : qIv) : qIv := if qle 0 a.1 && qle 1 b.1 then (0, a.2) else (i32lo, i32hi)
theorem q_nI {x : Int32} (h : 0 ≤ x.toInt) : ∃ n : Nat, n < 2 ^ 31 ∧ x = nI n ∧ x.toInt = n := by
  obtain ⟨n, h1, h2⟩ := nI_of (x := x) (by rw [Int32.lt_iff_toInt_lt]; simpa using h)
  exact ⟨n, h1, h2, by rw [h2]; exact nI_toInt h1⟩
theorem q_div {a b : qIv} {x y : Int32} (h1 : qIn a x.toInt) (h2 : qIn b y.toInt) : qIn (qdiv a b) (x / y).toInt := by
  unfold qdiv
  simp only [qIn] at *
  split
  · rename_i h
    simp only [qle, Bool.and_eq_true, decide_eq_true_eq] at h
    obtain ⟨n, n1, rfl, n3⟩ := q_nI (x := x) (by omega)
    obtain ⟨d, d1, rfl, d3⟩ := q_nI (x := y) (by omega)
    have hd : n / d ≤ n := Nat.div_le_self _ _
    rw [pk_div n1 (by omega) d1, nI_toInt (by omega)]
    generalize n / d = w at hd ⊢
    omega
  · exact q_rng _
def qrem (a b : qIv) : qIv := if qle 0 a.1 && qle 1 b.1 then (0, qmin a.2 (b.2 - 1)) else (i32lo, i32hi)
theorem q_rem {a b : qIv} {x y : Int32} (h1 : qIn a x.toInt) (h2 : qIn b y.toInt) : qIn (qrem a b) (x - x / y * y).toInt := by
  unfold qrem
  simp only [qIn] at *
  split
  · rename_i h
    simp only [qle, Bool.and_eq_true, decide_eq_true_eq] at h
    obtain ⟨n, n1, rfl, n3⟩ := q_nI (x := x) (by omega)
    obtain ⟨d, d1, rfl, d3⟩ := q_nI (x := y) (by omega)
    have hd : n % d ≤ n := Nat.mod_le _ _
    have hd2 : n % d < d := Nat.mod_lt _ (by omega)
    rw [pk_rem n1 (by omega) d1, nI_toInt (by omega)]
    simp only [qmin]
    constructor
    · omega
    · split <;> omega
  · exact q_rng _
/-- longs -/
theorem q_lN {x : Int64} (h : 0 ≤ x.toInt) : ∃ n : Nat, n < 2 ^ 63 ∧ x = lN n ∧ x.toInt = n := by
  obtain ⟨n, h1, h2⟩ := pk_lOf (x := x) (by rw [Int64.lt_iff_toInt_lt]; simpa using h)
  exact ⟨n, h1, h2, by rw [h2]; exact pk_lT h1⟩
def qdivL (a b : qIv) : qIv := if qle 0 a.1 && qle 1 b.1 && decide (b.1 = b.2) then (0, a.2 / b.1) else (i64lo, i64hi)
theorem q_divL {a b : qIv} {x y : Int64} (h1 : qIn a x.toInt) (h2 : qIn b y.toInt) : qIn (qdivL a b) (x / y).toInt := by
  unfold qdivL
  simp only [qIn] at *
  split
  · rename_i h
    simp only [qle, Bool.and_eq_true, decide_eq_true_eq] at h
    obtain ⟨n, n1, rfl, n3⟩ := q_lN (x := x) (by omega)
    obtain ⟨d, d1, rfl, d3⟩ := q_lN (x := y) (by omega)
    have hd : n / d ≤ n := Nat.div_le_self _ _
    rw [pk_lDiv n1 (by omega) d1, pk_lT (by omega)]
    refine ⟨Int.natCast_nonneg _, ?_⟩
    have e : ((n / d : Nat) : Int) = (n : Int) / (d : Int) := by simp
    rw [e, show b.1 = (d : Int) by omega]
    exact Int.ediv_le_ediv (by omega) (by omega)
  · exact q_rngL _
def qremL (a b : qIv) : qIv := if qle 0 a.1 && qle 1 b.1 then (0, b.2 - 1) else (i64lo, i64hi)
theorem q_remL {a b : qIv} {x y : Int64} (h1 : qIn a x.toInt) (h2 : qIn b y.toInt) : qIn (qremL a b) (x - x / y * y).toInt := by
  unfold qremL
  simp only [qIn] at *
  split
  · rename_i h
    simp only [qle, Bool.and_eq_true, decide_eq_true_eq] at h
    obtain ⟨n, n1, rfl, n3⟩ := q_lN (x := x) (by omega)
    obtain ⟨d, d1, rfl, d3⟩ := q_lN (x := y) (by omega)
    have hd : n % d ≤ n := Nat.mod_le _ _
    have hd2 : n % d < d := Nat.mod_lt _ (by omega)
    rw [pk_lRem n1 (by omega) d1, pk_lT (by omega)]
    omega
  · exact q_rngL _
def ql2i (a : qIv) : qIv := if qle i32lo a.1 && qle a.2 i32hi then a else (i32lo, i32hi)
theorem q_l2i {a : qIv} {x : Int64} (h1 : qIn a x.toInt) : qIn (ql2i a) x.toInt32.toInt := by
  unfold ql2i
  split
  · rename_i h
    simp only [qle, Bool.and_eq_true, decide_eq_true_eq] at h
    have e : x.toInt32.toInt = x.toInt.bmod (2 ^ 32) := by simp
    rw [e, q_bmod (Int.le_trans h.1 h1.1) (Int.le_trans h1.2 h.2)]; exact h1
  · exact q_full _
theorem q_i2l (x : Int32) : x.toInt64.toInt = x.toInt := by simp
theorem q_i2b (x : Int32) : qIn (-128, 127) x.toInt8.toInt32.toInt := by
  have e : x.toInt8.toInt32.toInt = x.toInt8.toInt := by simp
  rw [e]
  have h1 := x.toInt8.le_toInt
  have h2 := x.toInt8.toInt_lt
  simp only [qIn]; omega
theorem q_addT (x y : Int32) : (x + y).toInt = (x.toInt + y.toInt).bmod (2 ^ 32) := by simp
theorem q_subT (x y : Int32) : (x - y).toInt = (x.toInt - y.toInt).bmod (2 ^ 32) := by simp
theorem q_mulT (x y : Int32) : (x * y).toInt = (x.toInt * y.toInt).bmod (2 ^ 32) := by simp
theorem q_negT (x : Int32) : (-x).toInt = (-x.toInt).bmod (2 ^ 32) := by simp
theorem q_addTL (x y : Int64) : (x + y).toInt = (x.toInt + y.toInt).bmod (2 ^ 64) := by simp
theorem q_mulTL (x y : Int64) : (x * y).toInt = (x.toInt * y.toInt).bmod (2 ^ 64) := by simp
def qneg (a : qIv) : qIv := (-a.2, -a.1)
theorem q_neg {a : qIv} {x : Int} (h : qIn a x) : qIn (qneg a) (-x) := by simp only [qIn, qneg] at *; omega

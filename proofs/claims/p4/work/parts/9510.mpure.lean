/-! the model's tokens: 0 the end, 1 a word, 2 a number, 3 a sign, 4 none; the word to the base 27, of its first eight letters; the number of its first four digits -/
def vm (g : Nat → Int32) (s : Nat) : Nat → Int64
  | 0 => 0
  | k + 1 => vm g s k * 27 + (g (s + k)).toInt64 - 96
def vn (g : Nat → Int32) (s : Nat) : Nat → Int32
  | 0 => 0
  | k + 1 => vn g s k * 10 + g (s + k) - 48
theorem vm_step {g : Nat → Int32} {s r : Nat} (h : s ≤ r) (h8 : r - s < 8) : vm g s (min 8 (r - s)) * 27 + (g r).toInt64 - 96 = vm g s (min 8 (r + 1 - s)) := by
  rw [show min 8 (r + 1 - s) = (r - s) + 1 by omega, show min 8 (r - s) = r - s by omega]
  show _ = vm g s (r - s) * 27 + (g (s + (r - s))).toInt64 - 96
  rw [show s + (r - s) = r by omega]
theorem vn_step {g : Nat → Int32} {s r : Nat} (h : s ≤ r) (h4 : r - s < 4) : vn g s (min 4 (r - s)) * 10 + g r - 48 = vn g s (min 4 (r + 1 - s)) := by
  rw [show min 4 (r + 1 - s) = (r - s) + 1 by omega, show min 4 (r - s) = r - s by omega]
  show _ = vn g s (r - s) * 10 + g (s + (r - s)) - 48
  rw [show s + (r - s) = r by omega]
def mk1 (g : Nat → Int32) (n s : Nat) : Int32 :=
  if s < n then (if isL (g s) = true then (if rn isL g n s - s ≤ 8 then 1 else 4) else if isD (g s) = true then (if rn isD g n s - s ≤ 4 then 2 else 4) else if isS (g s) = true then 3 else 4) else 0
def mw1 (g : Nat → Int32) (n s : Nat) : Int64 := if s < n then (if isL (g s) = true then vm g s (min 8 (rn isL g n s - s)) else 0) else 0
def mt1 (g : Nat → Int32) (n s : Nat) : Int32 := if s < n then (if isL (g s) = true then 0 else if isD (g s) = true then vn g s (min 4 (rn isD g n s - s)) else 0) else 0
def mk (g : Nat → Int32) (n p : Nat) : Int32 := mk1 g n (ts g n p)
def mw (g : Nat → Int32) (n p : Nat) : Int64 := mw1 g n (ts g n p)
def mt (g : Nat → Int32) (n p : Nat) : Int32 := mt1 g n (ts g n p)
section MTK
variable {g : Nat → Int32} {n s : Nat}
theorem uE (h : ¬ s < n) : te1 g n s = s ∧ mk1 g n s = 0 ∧ mw1 g n s = 0 ∧ mt1 g n s = 0 := by
  unfold te1 mk1 mw1 mt1
  rw [if_neg h, if_neg h, if_neg h, if_neg h]
  exact ⟨rfl, rfl, rfl, rfl⟩
theorem uL (h : s < n) (hl : isL (g s) = true) : te1 g n s = rn isL g n s ∧ mk1 g n s = (if rn isL g n s - s ≤ 8 then 1 else 4) ∧ mw1 g n s = vm g s (min 8 (rn isL g n s - s)) ∧ mt1 g n s = 0 := by
  unfold te1 mk1 mw1 mt1
  rw [if_pos h, if_pos h, if_pos h, if_pos h, if_pos hl, if_pos hl, if_pos hl, if_pos hl]
  exact ⟨rfl, rfl, rfl, rfl⟩
theorem uD (h : s < n) (hl : ¬ isL (g s) = true) (hd : isD (g s) = true) : te1 g n s = rn isD g n s ∧ mk1 g n s = (if rn isD g n s - s ≤ 4 then 2 else 4) ∧ mw1 g n s = 0 ∧ mt1 g n s = vn g s (min 4 (rn isD g n s - s)) := by
  unfold te1 mk1 mw1 mt1
  rw [if_pos h, if_pos h, if_pos h, if_pos h, if_neg hl, if_neg hl, if_neg hl, if_neg hl, if_pos hd, if_pos hd, if_pos hd]
  exact ⟨rfl, rfl, rfl, rfl⟩
theorem uS (h : s < n) (hl : ¬ isL (g s) = true) (hd : ¬ isD (g s) = true) : te1 g n s = s + 1 ∧ mk1 g n s = (if isS (g s) = true then 3 else 4) ∧ mw1 g n s = 0 ∧ mt1 g n s = 0 := by
  unfold te1 mk1 mw1 mt1
  rw [if_pos h, if_pos h, if_pos h, if_pos h, if_neg hl, if_neg hl, if_neg hl, if_neg hl, if_neg hd, if_neg hd, if_neg hd]
  exact ⟨rfl, rfl, rfl, rfl⟩
end MTK
theorem nI_inj9 {a b : Nat} (ha : a ≤ 1000) (hb : b ≤ 1000) (h : nI a = nI b) : a = b := by
  have := congrArg Int32.toInt h
  rw [nI_toInt (by omega), nI_toInt (by omega)] at this
  omega
theorem isS_r {c : Int32} : isS c = true ↔ ((¬ c < 40 ∧ ¬ 43 < c) ∨ c = 45 ∨ (¬ c < 59 ∧ ¬ 61 < c)) := by
  have e : ∀ k : Int32, (c = k ↔ c.toInt = k.toInt) := fun k => Int32.toInt_inj.symm
  unfold isS
  simp only [Bool.or_eq_true, decide_eq_true_eq, e, Int32.lt_iff_toInt_lt, show (40 : Int32).toInt = 40 from by decide, show (41 : Int32).toInt = 41 from by decide, show (42 : Int32).toInt = 42 from by decide, show (43 : Int32).toInt = 43 from by decide, show (45 : Int32).toInt = 45 from by decide, show (59 : Int32).toInt = 59 from by decide, show (60 : Int32).toInt = 60 from by decide, show (61 : Int32).toInt = 61 from by decide]
  omega

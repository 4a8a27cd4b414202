/-! tokens: what both readers see. A row f of n signs; the token behind place p -/
def isB (c : Int32) : Bool := decide (c = 10) || decide (c = 32)
def isL (c : Int32) : Bool := decide (¬ c < 97) && decide (¬ 122 < c)
def isD (c : Int32) : Bool := decide (¬ c < 48) && decide (¬ 57 < c)
def rnk (P : Int32 → Bool) (f : Nat → Int32) (n : Nat) : Nat → Nat → Nat
  | 0, p => p
  | k + 1, p => if p < n ∧ P (f p) = true then rnk P f n k (p + 1) else p
/-- the end of the run of P from p on -/
def rn (P : Int32 → Bool) (f : Nat → Int32) (n p : Nat) : Nat := rnk P f n (n - p) p
section RN
variable {P : Int32 → Bool} {f g : Nat → Int32} {n p : Nat}
theorem rn_go (h : p < n) (hp : P (f p) = true) : rn P f n p = rn P f n (p + 1) := by
  unfold rn
  obtain ⟨k, hk⟩ : ∃ k, n - p = k + 1 := ⟨n - p - 1, by omega⟩
  rw [hk, show n - (p + 1) = k by omega]
  show (if p < n ∧ P (f p) = true then rnk P f n k (p + 1) else p) = _
  rw [if_pos ⟨h, hp⟩]
theorem rn_end (h : ¬ p < n) : rn P f n p = p := by
  unfold rn
  rw [show n - p = 0 by omega]
  rfl
theorem rn_no (h : P (f p) = false) : rn P f n p = p := by
  unfold rn
  cases n - p with
  | zero => rfl
  | succ k =>
    show (if p < n ∧ P (f p) = true then rnk P f n k (p + 1) else p) = p
    rw [if_neg (fun h9 => by rw [h] at h9; exact absurd h9.2 (by decide))]
theorem rnk_ge : ∀ (k p : Nat), p ≤ rnk P f n k p
  | 0, _ => Nat.le_refl _
  | k + 1, p => by
    show p ≤ (if p < n ∧ P (f p) = true then rnk P f n k (p + 1) else p)
    split
    · exact Nat.le_trans (Nat.le_succ p) (rnk_ge k (p + 1))
    · exact Nat.le_refl _
theorem rnk_le : ∀ (k p : Nat), p ≤ n → rnk P f n k p ≤ n
  | 0, _, h => h
  | k + 1, p, h => by
    show (if p < n ∧ P (f p) = true then rnk P f n k (p + 1) else p) ≤ n
    split
    · rename_i h9
      exact rnk_le k (p + 1) h9.1
    · exact h
theorem rnk_all : ∀ (k p i : Nat), p ≤ i → i < rnk P f n k p → P (f i) = true
  | 0, p, i, h1, h2 => absurd h2 (by show ¬ i < p; omega)
  | k + 1, p, i, h1, h2 => by
    have h2 : i < (if p < n ∧ P (f p) = true then rnk P f n k (p + 1) else p) := h2
    split at h2
    · rename_i h9
      by_cases e : i = p
      · rw [e]; exact h9.2
      · exact rnk_all k (p + 1) i (by omega) h2
    · omega
theorem rnk_stop : ∀ (k p : Nat), n ≤ p + k → rnk P f n k p < n → P (f (rnk P f n k p)) = false
  | 0, p, h, h2 => absurd h2 (by show ¬ p < n; omega)
  | k + 1, p, h, h2 => by
    have h2 : (if p < n ∧ P (f p) = true then rnk P f n k (p + 1) else p) < n := h2
    show P (f (if p < n ∧ P (f p) = true then rnk P f n k (p + 1) else p)) = false
    split at h2
    · rename_i h9
      rw [if_pos h9]
      exact rnk_stop k (p + 1) (by omega) h2
    · rename_i h9
      rw [if_neg h9]
      cases hq : P (f p) with
      | false => rfl
      | true => exact absurd ⟨h2, hq⟩ h9
theorem rnk_same (h : ∀ k, k < n → f k = g k) : ∀ (k p : Nat), rnk P f n k p = rnk P g n k p
  | 0, _ => rfl
  | k + 1, p => by
    show (if p < n ∧ P (f p) = true then rnk P f n k (p + 1) else p) = (if p < n ∧ P (g p) = true then rnk P g n k (p + 1) else p)
    by_cases hp : p < n
    · rw [h p hp, rnk_same h k (p + 1)]
    · rw [if_neg (fun h9 => hp h9.1), if_neg (fun h9 => hp h9.1)]
theorem rn_ge : p ≤ rn P f n p := rnk_ge _ _
theorem rn_le (h : p ≤ n) : rn P f n p ≤ n := rnk_le _ _ h
theorem rn_all {i : Nat} (h1 : p ≤ i) (h2 : i < rn P f n p) : P (f i) = true := rnk_all _ _ i h1 h2
theorem rn_stop (h : rn P f n p < n) : P (f (rn P f n p)) = false := rnk_stop _ _ (by omega) h
theorem rn_same (h : ∀ k, k < n → f k = g k) : rn P f n p = rn P g n p := rnk_same h _ _
end RN
/-- the letters' number, to the base b; the digits' -/
def vl (b : Int64) (f : Nat → Int32) (s : Nat) : Nat → Int64
  | 0 => 0
  | k + 1 => vl b f s k * b + (f (s + k) - 96).toInt64
def vd (f : Nat → Int32) (s : Nat) : Nat → Int32
  | 0 => 0
  | k + 1 => vd f s k * 10 + (f (s + k) - 48)
/-- the token behind p: where it begins; of one that begins at s: its end, kind (as the class says it: 0 the end, 1 a word, 2 a number, 3 none, else the sign), word -/
def ts (f : Nat → Int32) (n p : Nat) : Nat := rn isB f n (min p n)
def te1 (f : Nat → Int32) (n s : Nat) : Nat :=
  if s < n then (if isL (f s) = true then rn isL f n s else if isD (f s) = true then rn isD f n s else s + 1) else s
def isS (c : Int32) : Bool := decide (c = 40) || decide (c = 41) || decide (c = 60) || decide (c = 61) || decide (c = 43) || decide (c = 45) || decide (c = 42) || decide (c = 59)
def tk1 (f : Nat → Int32) (n s : Nat) : Int32 :=
  if s < n then (if isL (f s) = true then (if rn isL f n s - s ≤ 8 then 1 else 3) else if isD (f s) = true then (if rn isD f n s - s ≤ 4 then 2 else 3) else if isS (f s) = true then f s else 3) else 0
def wofk (x : Int64) : Nat → Nat → Nat
  | 0, _ => 1
  | d + 1, k => if kWl.getD k 0 = x then k else wofk x d (k + 1)
/-- the number of a word among the words, 1 for another -/
def wof (x : Int64) : Nat := wofk x 26 0
def tw1 (f : Nat → Int32) (n s : Nat) : Nat := if s < n then (if isL (f s) = true then (if rn isL f n s - s ≤ 8 then wof (vl 32 f s (rn isL f n s - s)) else 0) else 0) else 0
/-- what the fields number and letters hold behind it: as they were, if it is none of theirs -/
def tn1 (f : Nat → Int32) (n s : Nat) (x : Int32) : Int32 := if s < n then (if isL (f s) = true then x else if isD (f s) = true then vd f s (rn isD f n s - s) else x) else x
def tl1 (f : Nat → Int32) (n s : Nat) (y : Int64) : Int64 := if s < n then (if isL (f s) = true then vl 32 f s (rn isL f n s - s) else y) else y
def te (f : Nat → Int32) (n p : Nat) : Nat := te1 f n (ts f n p)
def tk (f : Nat → Int32) (n p : Nat) : Int32 := tk1 f n (ts f n p)
def tw (f : Nat → Int32) (n p : Nat) : Nat := tw1 f n (ts f n p)
def tl (f : Nat → Int32) (n p : Nat) (y : Int64) : Int64 := tl1 f n (ts f n p) y
def tn (f : Nat → Int32) (n p : Nat) (x : Int32) : Int32 := tn1 f n (ts f n p) x
section TK
variable {f g : Nat → Int32} {n s p : Nat} {x : Int32} {y : Int64}
theorem tE (h : ¬ s < n) : te1 f n s = s ∧ tk1 f n s = 0 ∧ tw1 f n s = 0 ∧ tn1 f n s x = x ∧ tl1 f n s y = y := by
  unfold te1 tk1 tw1 tn1 tl1
  simp [h]
theorem tL1 (h : s < n) (hl : isL (f s) = true) (h8 : rn isL f n s - s ≤ 8) : te1 f n s = rn isL f n s ∧ tk1 f n s = 1 ∧ tw1 f n s = wof (vl 32 f s (rn isL f n s - s)) ∧ tn1 f n s x = x ∧ tl1 f n s y = vl 32 f s (rn isL f n s - s) := by
  unfold te1 tk1 tw1 tn1 tl1
  simp [h, hl, h8]
theorem tL3 (h : s < n) (hl : isL (f s) = true) (h8 : ¬ rn isL f n s - s ≤ 8) : te1 f n s = rn isL f n s ∧ tk1 f n s = 3 ∧ tw1 f n s = 0 ∧ tn1 f n s x = x ∧ tl1 f n s y = vl 32 f s (rn isL f n s - s) := by
  unfold te1 tk1 tw1 tn1 tl1
  simp [h, hl, h8]
theorem isL_f (h : ¬ isL (f s) = true) {α : Type} {a b : α} : (if isL (f s) = true then a else b) = b := if_neg h
theorem tD2 (h : s < n) (hl : ¬ isL (f s) = true) (hd : isD (f s) = true) (h4 : rn isD f n s - s ≤ 4) : te1 f n s = rn isD f n s ∧ tk1 f n s = 2 ∧ tw1 f n s = 0 ∧ tn1 f n s x = vd f s (rn isD f n s - s) ∧ tl1 f n s y = y := by
  unfold te1 tk1 tw1 tn1 tl1
  simp [h, hl, hd, h4]
theorem tD3 (h : s < n) (hl : ¬ isL (f s) = true) (hd : isD (f s) = true) (h4 : ¬ rn isD f n s - s ≤ 4) : te1 f n s = rn isD f n s ∧ tk1 f n s = 3 ∧ tw1 f n s = 0 ∧ tn1 f n s x = vd f s (rn isD f n s - s) ∧ tl1 f n s y = y := by
  unfold te1 tk1 tw1 tn1 tl1
  simp [h, hl, hd, h4]
theorem tS1 (h : s < n) (hl : ¬ isL (f s) = true) (hd : ¬ isD (f s) = true) (hs : isS (f s) = true) : te1 f n s = s + 1 ∧ tk1 f n s = f s ∧ tw1 f n s = 0 ∧ tn1 f n s x = x ∧ tl1 f n s y = y := by
  unfold te1 tk1 tw1 tn1 tl1
  simp [h, hl, hd, hs]
theorem tS3 (h : s < n) (hl : ¬ isL (f s) = true) (hd : ¬ isD (f s) = true) (hs : ¬ isS (f s) = true) : te1 f n s = s + 1 ∧ tk1 f n s = 3 ∧ tw1 f n s = 0 ∧ tn1 f n s x = x ∧ tl1 f n s y = y := by
  unfold te1 tk1 tw1 tn1 tl1
  simp [h, hl, hd, hs]
theorem ts_le : ts f n p ≤ n := rn_le (Nat.min_le_right p n)
theorem ts_eq (h : p ≤ n) : rn isB f n p = ts f n p := by unfold ts; rw [Nat.min_eq_left h]
theorem te1_le (h : s ≤ n) : te1 f n s ≤ n := by
  unfold te1
  split
  · split
    · exact rn_le h
    · split
      · exact rn_le h
      · omega
  · exact h
theorem te1_ge : s ≤ te1 f n s := by
  unfold te1
  split
  · split
    · exact rn_ge
    · split
      · exact rn_ge
      · omega
  · exact Nat.le_refl _
theorem te1_gt (h : s < n) : s < te1 f n s := by
  unfold te1
  rw [if_pos h]
  split
  · rename_i hl
    rw [rn_go h hl]
    exact rn_ge
  · split
    · rename_i hd
      rw [rn_go h hd]
      exact rn_ge
    · omega
theorem te_le : te f n p ≤ n := te1_le ts_le
theorem te_gt (h : ts f n p < n) : ts f n p + 1 ≤ te f n p := te1_gt h
theorem ts_ge (h : p ≤ n) : p ≤ ts f n p := by
  unfold ts
  rw [Nat.min_eq_left h]
  exact rn_ge
theorem ts_same (h : ∀ k, k < n → f k = g k) : ts f n p = ts g n p := rn_same h
theorem te1_same (h : ∀ k, k < n → f k = g k) : te1 f n s = te1 g n s := by
  unfold te1
  by_cases hs : s < n
  · rw [if_pos hs, if_pos hs, h _ hs, rn_same h, rn_same (P := isD) h]
  · rw [if_neg hs, if_neg hs]
theorem tk1_same (h : ∀ k, k < n → f k = g k) : tk1 f n s = tk1 g n s := by
  unfold tk1
  by_cases hs : s < n
  · rw [if_pos hs, if_pos hs, h _ hs, rn_same h, rn_same (P := isD) h]
  · rw [if_neg hs, if_neg hs]
theorem vl_same {b : Int64} (h : ∀ k, k < n → f k = g k) : ∀ k, s + k ≤ n → vl b f s k = vl b g s k
  | 0, _ => rfl
  | k + 1, hk => by
    show vl b f s k * b + (f (s + k) - 96).toInt64 = vl b g s k * b + (g (s + k) - 96).toInt64
    rw [vl_same h k (by omega), h (s + k) (by omega)]
theorem vd_same (h : ∀ k, k < n → f k = g k) : ∀ k, s + k ≤ n → vd f s k = vd g s k
  | 0, _ => rfl
  | k + 1, hk => by
    show vd f s k * 10 + (f (s + k) - 48) = vd g s k * 10 + (g (s + k) - 48)
    rw [vd_same h k (by omega), h (s + k) (by omega)]
end TK
theorem isL_lo {c : Int32} (h : c < 97) : isL c = false := by unfold isL; simp [h]
theorem isL_hi {c : Int32} (h : 122 < c) : isL c = false := by unfold isL; simp [h]
theorem isL_ok {c : Int32} (h1 : ¬ c < 97) (h2 : ¬ 122 < c) : isL c = true := by unfold isL; simp [h1, h2]
theorem isD_lo {c : Int32} (h : c < 48) : isD c = false := by unfold isD; simp [h]
theorem isD_hi {c : Int32} (h : 57 < c) : isD c = false := by unfold isD; simp [h]
theorem isD_ok {c : Int32} (h1 : ¬ c < 48) (h2 : ¬ 57 < c) : isD c = true := by unfold isD; simp [h1, h2]
theorem vl_step {b : Int64} {f : Nat → Int32} {p q : Nat} (h : p ≤ q) : vl b f p (q - p) * b + (f q - 96).toInt64 = vl b f p (q + 1 - p) := by
  rw [show q + 1 - p = (q - p) + 1 by omega]
  show _ = vl b f p (q - p) * b + (f (p + (q - p)) - 96).toInt64
  rw [show p + (q - p) = q by omega]
theorem vd_step {f : Nat → Int32} {p q : Nat} (h : p ≤ q) : vd f p (q - p) * 10 + (f q - 48) = vd f p (q + 1 - p) := by
  rw [show q + 1 - p = (q - p) + 1 by omega]
  show _ = vd f p (q - p) * 10 + (f (p + (q - p)) - 48)
  rw [show p + (q - p) = q by omega]
theorem isS_y {v : Int32} (h : v = 40 ∨ v = 41 ∨ v = 60 ∨ v = 61 ∨ v = 43 ∨ v = 45 ∨ v = 42 ∨ v = 59) : isS v = true := by
  rcases h with rfl | rfl | rfl | rfl | rfl | rfl | rfl | rfl <;> decide
theorem isS_n {v : Int32} (h : ¬ v = 40 ∧ ¬ v = 41 ∧ ¬ v = 60 ∧ ¬ v = 61 ∧ ¬ v = 43 ∧ ¬ v = 45 ∧ ¬ v = 42 ∧ ¬ v = 59) : isS v = false := by
  obtain ⟨h1, h2, h3, h4, h5, h6, h7, h8⟩ := h
  unfold isS
  simp [h1, h2, h3, h4, h5, h6, h7, h8]
theorem isB_y1 {c : Int32} (h : c = 10) : isB c = true := by rw [h]; decide
theorem isB_y2 {c : Int32} (h : c = 32) : isB c = true := by rw [h]; decide
theorem isB_n {c : Int32} (h1 : ¬ c = 10) (h2 : ¬ c = 32) : isB c = false := by unfold isB; simp [h1, h2]
theorem nI_subI {a b : Nat} (h : b ≤ a) (ha : a ≤ 1000) : nI a - nI b = nI (a - b) := by
  apply Int32.toInt_inj.mp
  rw [Int32.toInt_sub, nI_toInt (by omega), nI_toInt (by omega), nI_toInt (by omega), q_bmod (by unfold i32lo; omega) (by unfold i32hi; omega)]
  omega
theorem f_pos {f : Nat → Int32} {n q : Nat} (hok : ∀ k, k < n → kok (f k) = true) (h : q < n) : ¬ f q = -1 := by
  obtain ⟨k, h1, h2, e⟩ := kok_iff (hok q h)
  rw [e]
  intro h9
  have := congrArg Int32.toInt h9
  rw [show (Int32.ofNat k).toInt = (nI k).toInt from rfl, nI_toInt (by omega), show (-1 : Int32).toInt = -1 from by decide] at this
  omega
theorem isS_ne {c : Int32} (h : isS c = true) : ¬ c = 1 ∧ ¬ c = 2 := ⟨fun e => by rw [e] at h; exact absurd h (by decide), fun e => by rw [e] at h; exact absurd h (by decide)⟩
def tWd (γ : kΓ) (h hg n : Nat) (f : Nat → Int32) (P : Nat) (N : Int32) (L : Int64) : va_W := [(h, .inr (8, [.ref hg, .int (nI n), .int (nI (ts f n P)), .int (nI (te f n P)), .int (tk f n P), .int N, .long L, .ref (γ.2.2.2.2 (tw f n P))])), (hg, .inl (γ.2.1 2, 1000, .inl f))]

def kok (b : Int32) : Bool := decide (b = 10) || (decide (¬ b < 32) && decide (¬ 126 < b))
def kst (n : Nat) (b : Int32) : Nat := if kok b = true ∧ n < 1000 then n + 1 else n
def kby (v : Int64) (S : Int32) : Int32 := (v.toUInt64 >>> (S.toInt64.toUInt64 &&& Int64.toUInt64 63)).toInt64.toInt32 &&& 255
def kad (v : Int64) : Nat → Nat → Nat
  | 0, n => n
  | j + 1, n => kad v j (kst n (kby v (nI (8 * j))))
theorem kst_a {n : Nat} {b : Int32} (h : b = 10) (hn : n < 1000) : kst n b = n + 1 := by
  unfold kst kok; rw [if_pos ⟨by rw [h]; decide, hn⟩]
theorem kst_b {n : Nat} {b : Int32} (h1 : ¬ b < 32) (h2 : ¬ 126 < b) (hn : n < 1000) : kst n b = n + 1 := by
  unfold kst kok; rw [if_pos ⟨by simp [h1, h2], hn⟩]
theorem kst_full {n : Nat} {b : Int32} (hn : ¬ n < 1000) : kst n b = n := by
  unfold kst; rw [if_neg (fun h => hn h.2)]
theorem kst_lo {n : Nat} {b : Int32} (h0 : ¬ b = 10) (h : b < 32) : kst n b = n := by
  unfold kst kok; rw [if_neg (fun h9 => by simp [h0, h] at h9)]
theorem kst_hi {n : Nat} {b : Int32} (h0 : ¬ b = 10) (h : 126 < b) : kst n b = n := by
  unfold kst kok; rw [if_neg (fun h9 => by simp [h0, h] at h9)]
theorem kst_le {n : Nat} {b : Int32} (h : n ≤ 1000) : kst n b ≤ 1000 := by
  unfold kst; split <;> omega
theorem kad_le (v : Int64) : ∀ (j n : Nat), n ≤ 1000 → kad v j n ≤ 1000
  | 0, _, h => h
  | j + 1, n, h => kad_le v j _ (kst_le h)
theorem k_land (x : Int64) : (x &&& 255).toInt32 = x.toInt32 &&& 255 := by
  rw [Int64.toInt32_and]; rfl
theorem kok_a {b : Int32} (h : b = 10) : kok b = true := by unfold kok; rw [h]; decide
theorem kok_b {b : Int32} (h1 : ¬ b < 32) (h2 : ¬ 126 < b) : kok b = true := by unfold kok; simp [h1, h2]
def kup (f : Nat → Int32) (n : Nat) (b : Int32) : Nat → Int32 := if kok b = true ∧ n < 1000 then upd f n b else f
def kfa (v : Int64) : Nat → Nat → (Nat → Int32) → (Nat → Int32)
  | 0, _, f => f
  | j + 1, n, f => kfa v j (kst n (kby v (nI (8 * j)))) (kup f n (kby v (nI (8 * j))))
theorem kup_y {f : Nat → Int32} {n : Nat} {b : Int32} (h : kok b = true) (hn : n < 1000) : kup f n b = upd f n b := by
  unfold kup; rw [if_pos ⟨h, hn⟩]
theorem kup_full {f : Nat → Int32} {n : Nat} {b : Int32} (hn : ¬ n < 1000) : kup f n b = f := by
  unfold kup; rw [if_neg (fun h => hn h.2)]
theorem kup_lo {f : Nat → Int32} {n : Nat} {b : Int32} (h0 : ¬ b = 10) (h : b < 32) : kup f n b = f := by
  unfold kup kok; rw [if_neg (fun h9 => by simp [h0, h] at h9)]
theorem kup_hi {f : Nat → Int32} {n : Nat} {b : Int32} (h0 : ¬ b = 10) (h : 126 < b) : kup f n b = f := by
  unfold kup kok; rw [if_neg (fun h9 => by simp [h0, h] at h9)]
theorem kok_iff {b : Int32} (h : kok b = true) : ∃ k : Nat, k < 127 ∧ 10 ≤ k ∧ b = Int32.ofNat k := by
  have e32 : (32 : Int32).toInt = 32 := by decide
  have e126 : (126 : Int32).toInt = 126 := by decide
  unfold kok at h
  simp only [Bool.or_eq_true, Bool.and_eq_true, decide_eq_true_eq] at h
  rcases h with rfl | ⟨h1, h2⟩
  · exact ⟨10, by decide, by decide, rfl⟩
  · rw [Int32.lt_iff_toInt_lt, e32] at h1
    rw [Int32.lt_iff_toInt_lt, e126] at h2
    refine ⟨b.toInt.toNat, by omega, by omega, ?_⟩
    apply Int32.toInt_inj.mp
    show _ = (nI b.toInt.toNat).toInt
    rw [nI_toInt (by omega)]
    omega
theorem kok_nar : ∀ k : Nat, k < 127 → vp_nar .byte ((Int32.ofNat k).toInt8.toInt32) = Int32.ofNat k := by decide +kernel
theorem kok_byte {b x : Int32} (h : kok b = true) (hx : x = b.toInt8.toInt32) : vp_nar .byte x = b := by
  obtain ⟨k, h1, h2, rfl⟩ := kok_iff h
  rw [hx]; exact kok_nar k h1
/-- what lies on the tape after a byte more: two rows that were alike stay alike -/
theorem kup_same {f g : Nat → Int32} {n : Nat} {b : Int32} (h : ∀ k, k < n → f k = g k) : ∀ k, k < kst n b → kup f n b k = kup g n b k := by
  intro k hk
  unfold kst at hk
  unfold kup
  by_cases hc : kok b = true ∧ n < 1000
  · rw [if_pos hc] at hk
    rw [if_pos hc, if_pos hc]
    unfold upd
    by_cases e : k = n
    · subst e; simp
    · have e' : ¬ n = k := fun h => e h.symm
      simp only [e, e', if_false, beq_iff_eq]
      exact h k (by omega)
  · rw [if_neg hc] at hk
    rw [if_neg hc, if_neg hc]
    exact h k hk
theorem kfa_same (v : Int64) : ∀ (j n : Nat) (f g : Nat → Int32), (∀ k, k < n → f k = g k) → ∀ k, k < kad v j n → kfa v j n f k = kfa v j n g k
  | 0, _, _, _, h => h
  | j + 1, n, f, g, h => kfa_same v j _ _ _ (kup_same h)

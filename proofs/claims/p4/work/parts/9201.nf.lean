theorem nf_RX0 : ∀ j, j < 19 → defaultValue (tyX0 j) = vp_V [.null, .null, .null, .null, .null, .null, .null, .null, .int 0, .int 0, .int 0, .int 0, .int 0, .int 0, .int 0, .int 0, .int 0, .int 0, .int 0] j := by decide +kernel
theorem nf_RX1 : ∀ j, j < 6 → defaultValue (tyX1 j) = vp_V [.null, .null, .null, .null, .int 0, .int 0] j := by decide +kernel
theorem nf_RX2 : ∀ j, j < 5 → defaultValue (tyX2 j) = vp_V [.null, .int 0, .int 0, .int 0, .long 0] j := by decide +kernel
theorem nf_RX3 : ∀ j, j < 6 → defaultValue (tyX3 j) = vp_V [.null, .null, .null, .int 0, .int 0, .int 0] j := by decide +kernel
theorem nf_RX4 : ∀ j, j < 5 → defaultValue (tyX4 j) = vp_V [.null, .null, .null, .int 0, .int 0] j := by decide +kernel
theorem nf_RX5 : ∀ j, j < 5 → defaultValue (tyX5 j) = vp_V [.null, .null, .null, .int 0, .int 0] j := by decide +kernel
theorem nf_RX6 : ∀ j, j < 2 → defaultValue (tyX6 j) = vp_V [.null, .null] j := by decide +kernel
theorem nf_RX7 : ∀ j, j < 9 → defaultValue (tyX7 j) = vp_V [.null, .null, .null, .null, .null, .null, .int 0, .int 0, .int 0] j := by decide +kernel
theorem nf_RX8 : ∀ j, j < 8 → defaultValue (tyX8 j) = vp_V [.null, .int 0, .int 0, .int 0, .int 0, .int 0, .long 0, .null] j := by decide +kernel
theorem nf_RX9 : ∀ j, j < 3 → defaultValue (tyX9 j) = vp_V [.null, .int 0, .int 0] j := by decide +kernel
theorem nf_RX11 : ∀ j, j < 11 → defaultValue (tyX11 j) = vp_V [.null, .null, .null, .null, .null, .null, .null, .null, .null, .null, .null] j := by decide +kernel
theorem nf_RX12 : ∀ j, j < 64 → defaultValue (tyX12 j) = vp_V [.int 0, .int 0, .null, .int 0, .int 0, .int 0, .int 0, .long 0, .int 0, .int 0, .null, .null, .null, .null, .null, .null, .null, .null, .null, .null, .int 0, .int 0, .null, .null, .null, .null, .null, .null, .null, .null, .null, .null, .null, .null, .int 0, .long 0, .null, .null, .null, .null, .null, .null, .null, .null, .null, .null, .null, .null, .null, .int 0, .int 0, .int 0, .int 0, .int 0, .int 0, .null, .null, .int 0, .int 0, .null, .null, .null, .int 0, .long 0] j := by decide +kernel
theorem k_updfill {f : Nat → Int32} {i : Nat} {v : Int32} (hf : ∀ j, j < i → f j = v) : ∀ j, j < i + 1 → upd f i v j = v := by
  intro j hj
  by_cases h : j = i
  · rw [h, pk_us]
  · rw [pk_un h]; exact hf j (by omega)
theorem k_updfillL {f : Nat → Int64} {i : Nat} {v : Int64} (hf : ∀ j, j < i → f j = v) : ∀ j, j < i + 1 → vp_updL f i v j = v := by
  intro j hj
  by_cases h : j = i
  · rw [h, pk_uLs]
  · rw [pk_uLn h]; exact hf j (by omega)
theorem k_cpyall {α : Type} {f g : Nat → α} {n : Nat} {v : α} (h : ∀ j, j < n → f j = v) : ∀ j, j < n → va_cpy f g 0 0 n j = v := by
  intro j hj
  rw [pk_cpy_in (Nat.zero_le _) (by omega)]
  exact h _ (by omega)
theorem k_cpyeq {α : Type} {f g : Nat → α} {n j : Nat} (hj : j < n) : va_cpy f g 0 0 n j = f j := by
  rw [pk_cpy_in (Nat.zero_le _) (by omega)]
  congr 1
  omega
def kholders (t : Int32) : Int32 := if t < 1 then -1 else if 6 < t then -1 else 0
def kother (t : Int32) : Int32 := if t < 2 then -1 else if 12 < t then -1 else 0

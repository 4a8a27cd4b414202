theorem cTo_8 {w : va_W} {S : tS} (h : cTo w S) : S.1 ≤ 8 := by
  obtain ⟨pt, t0, t3, t4, pd, d0, d3, d4, -, -, -, -, -, h, -⟩ := h
  exact h
theorem gR_start {ge : Nat → Nat → Int32} {ob mb : Nat → Nat → Int32} : gR (fun _ => 0) (fun _ => 0) ge (fun _ => 0) ob mb := by
  intro j hj hl
  rcases hl with rfl | hl
  · exact ⟨0, by decide, rfl, rfl, fun i hi => absurd hi (Nat.not_lt_zero i)⟩
  · exact absurd (show (0 : Int32) = 1 from hl) (by decide)

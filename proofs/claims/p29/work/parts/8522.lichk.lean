/-! readsLine: by how many lines there are -/
def xLine (L : Nat) : qCon := (mn_515.1, [(2, 0, 0)], [(0, 3, 1, 1000), (0, 4, 1, 1000), (0, 5, 0, 999), (0, 6, 1, 4), (24, 5, (L : Int), (L : Int))], [(0, 1, 0), (1, 2, 1)], [(some (0, 0, 0), [(24, 5, (L : Int), (L : Int))], [], [], none), (some (0, 0, 0), [(24, 5, (L : Int) + 1, (L : Int) + 1), (26, 200 + L, 0, 4)], [], [], none),
  (some (0, 1, 1), [(0, 3, 2, 1000), (0, 4, 4, 1000), (0, 5, 3, 999), (0, 6, 1, 4), (24, 5, (L : Int) + 1, (L : Int) + 1), (26, 200 + L, 0, 4)], [], [(5, 6, 0), (6, 7, 1), (5, 7, 1), (7, 1, 1), (6, 1, 2), (7, 2, 1)], none), (some (0, 1, 1), [(0, 3, 1, 1000), (0, 4, 3, 1000), (0, 5, 3, 1000), (0, 6, 0, 0), (24, 5, (L : Int) + 1, (L : Int) + 1), (26, 200 + L, 0, 4)], [], [(5, 6, 0), (6, 7, 0), (5, 7, 0), (7, 1, 1), (6, 1, 2), (7, 2, 1)], none)],
  [(0, 4, 9), (0, 34, 34), (24, 5, 5), (25, 200 + L, 200 + L), (26, 200 + L, 200 + L), (27, 200 + L, 200 + L)])
def xLchk (L : Nat) : Bool := qchk mD [] mtb_RX12 mMT [mn_11, mn_13, mn_14, mn_16, mn_18, mn_19, mn_22, mn_466, mn_467, mn_514] 3 2 (xLine L) pg_X12_readsLine [] [] [] 1500
theorem x_l0 : ((List.range 10).all fun i => xLchk (0 + i)) = true := by decide +kernel
theorem x_l1 : ((List.range 10).all fun i => xLchk (10 + i)) = true := by decide +kernel
theorem x_l2 : ((List.range 10).all fun i => xLchk (20 + i)) = true := by decide +kernel
theorem x_l3 : ((List.range 10).all fun i => xLchk (30 + i)) = true := by decide +kernel
theorem x_lc {L : Nat} (h : L < 40) : xLchk L = true := by
  by_cases a0 : 0 ≤ L ∧ L < 10
  · have := List.all_eq_true.mp x_l0 (L - 0) (List.mem_range.mpr (by omega))
    rwa [show 0 + (L - 0) = L by omega] at this
  by_cases a1 : 10 ≤ L ∧ L < 20
  · have := List.all_eq_true.mp x_l1 (L - 10) (List.mem_range.mpr (by omega))
    rwa [show 10 + (L - 10) = L by omega] at this
  by_cases a2 : 20 ≤ L ∧ L < 30
  · have := List.all_eq_true.mp x_l2 (L - 20) (List.mem_range.mpr (by omega))
    rwa [show 20 + (L - 20) = L by omega] at this
  by_cases a3 : 30 ≤ L ∧ L < 40
  · have := List.all_eq_true.mp x_l3 (L - 30) (List.mem_range.mpr (by omega))
    rwa [show 30 + (L - 30) = L by omega] at this
  exfalso; omega
def xLine40 : qCon := (mn_515.1, [(2, 0, 0)], [(0, 3, 1, 1000), (0, 4, 1, 1000), (0, 5, 0, 999), (0, 6, 1, 4), (24, 5, 40, 40)], [(0, 1, 0), (1, 2, 1)], [(some (0, 0, 0), [], [], [], none)], [(0, 9, 9)])
theorem x_l40 : qchk mD [] mtb_RX12 mMT [mn_11, mn_13, mn_14, mn_16, mn_18, mn_19, mn_22, mn_466, mn_467, mn_514] 3 2 xLine40 pg_X12_readsLine [] [] [] 1500 = true := by decide +kernel

/-! readsLine: by how many lines there are -/
def xLine (L : Nat) : qCon := (mn_515.1, [(2, 0, 0)], [(0, 3, 1, 1000), (0, 4, 1, 1000), (0, 5, 0, 999), (0, 6, 1, 4), (24, 5, (L : Int), (L : Int))], [(0, 1, 0), (1, 2, 1)], [(some (0, 0, 0), [(24, 5, (L : Int), (L : Int))], [], [], none), (some (0, 0, 0), [(24, 5, (L : Int) + 1, (L : Int) + 1), (26, 200 + L, 0, 4)], [], [], none),
  (some (0, 1, 1), [(0, 3, 2, 1000), (0, 4, 4, 1000), (0, 5, 3, 999), (0, 6, 1, 4), (24, 5, (L : Int) + 1, (L : Int) + 1), (26, 200 + L, 0, 4)], [], [(5, 6, 0), (6, 7, 1), (5, 7, 1), (7, 1, 1), (6, 1, 2), (7, 2, 1)], none), (some (0, 1, 1), [(0, 3, 1, 1000), (0, 4, 3, 1000), (0, 5, 3, 1000), (0, 6, 0, 0), (24, 5, (L : Int) + 1, (L : Int) + 1), (26, 200 + L, 0, 4)], [], [(5, 6, 0), (6, 7, 0), (5, 7, 0), (7, 1, 1), (6, 1, 2), (7, 2, 1)], none)],
  [(0, 4, 9), (0, 34, 34), (24, 5, 5), (25, 200 + L, 200 + L), (26, 200 + L, 200 + L), (27, 200 + L, 200 + L)])
def xLchk (L : Nat) : Bool := qchk mD [] mtb_RX12 mMT [mn_11, mn_13, mn_14, mn_16, mn_18, mn_19, mn_22, mn_466, mn_467, mn_514] 3 2 (xLine L) pg_X12_readsLine [] [] [] 1500
theorem x_l0 : xLchk 0 = true := by decide +kernel
theorem x_l1 : xLchk 1 = true := by decide +kernel
theorem x_l2 : xLchk 2 = true := by decide +kernel
theorem x_l3 : xLchk 3 = true := by decide +kernel
theorem x_l4 : xLchk 4 = true := by decide +kernel
theorem x_l5 : xLchk 5 = true := by decide +kernel
theorem x_l6 : xLchk 6 = true := by decide +kernel
theorem x_l7 : xLchk 7 = true := by decide +kernel
theorem x_l8 : xLchk 8 = true := by decide +kernel
theorem x_l9 : xLchk 9 = true := by decide +kernel
theorem x_l10 : xLchk 10 = true := by decide +kernel
theorem x_l11 : xLchk 11 = true := by decide +kernel
theorem x_l12 : xLchk 12 = true := by decide +kernel
theorem x_l13 : xLchk 13 = true := by decide +kernel
theorem x_l14 : xLchk 14 = true := by decide +kernel
theorem x_l15 : xLchk 15 = true := by decide +kernel
theorem x_l16 : xLchk 16 = true := by decide +kernel
theorem x_l17 : xLchk 17 = true := by decide +kernel
theorem x_l18 : xLchk 18 = true := by decide +kernel
theorem x_l19 : xLchk 19 = true := by decide +kernel
theorem x_l20 : xLchk 20 = true := by decide +kernel
theorem x_l21 : xLchk 21 = true := by decide +kernel
theorem x_l22 : xLchk 22 = true := by decide +kernel
theorem x_l23 : xLchk 23 = true := by decide +kernel
theorem x_l24 : xLchk 24 = true := by decide +kernel
theorem x_l25 : xLchk 25 = true := by decide +kernel
theorem x_l26 : xLchk 26 = true := by decide +kernel
theorem x_l27 : xLchk 27 = true := by decide +kernel
theorem x_l28 : xLchk 28 = true := by decide +kernel
theorem x_l29 : xLchk 29 = true := by decide +kernel
theorem x_l30 : xLchk 30 = true := by decide +kernel
theorem x_l31 : xLchk 31 = true := by decide +kernel
theorem x_l32 : xLchk 32 = true := by decide +kernel
theorem x_l33 : xLchk 33 = true := by decide +kernel
theorem x_l34 : xLchk 34 = true := by decide +kernel
theorem x_l35 : xLchk 35 = true := by decide +kernel
theorem x_l36 : xLchk 36 = true := by decide +kernel
theorem x_l37 : xLchk 37 = true := by decide +kernel
theorem x_l38 : xLchk 38 = true := by decide +kernel
theorem x_l39 : xLchk 39 = true := by decide +kernel
def xLine40 : qCon := (mn_515.1, [(2, 0, 0)], [(0, 3, 1, 1000), (0, 4, 1, 1000), (0, 5, 0, 999), (0, 6, 1, 4), (24, 5, 40, 40)], [(0, 1, 0), (1, 2, 1)], [(some (0, 0, 0), [], [], [], none)], [(0, 9, 9)])
theorem x_l40 : qchk mD [] mtb_RX12 mMT [mn_11, mn_13, mn_14, mn_16, mn_18, mn_19, mn_22, mn_466, mn_467, mn_514] 3 2 xLine40 pg_X12_readsLine [] [] [] 1500 = true := by decide +kernel

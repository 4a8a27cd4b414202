/-! laysLines: what lies there is what lay here -/
def xLays (f t : Nat) : qCon := ((82, 0, 0), [(2, 0, 0), (0, (f : Int), (f : Int)), (0, (t : Int), (t : Int))], (24, f, 0, 40) :: (List.range 40).map (fun k => (26, 40 * f + k, -1, 4)), [], [(none, (24, t, 0, 40) :: (List.range 40).map (fun k => (26, 40 * t + k, -1, 4)), [], (List.range 41).flatMap (fun i => [(41 + i, i, 0), (i, 41 + i, 0)]), none)], [(24, t, t), (25, 40 * t, 40 * t + 39), (26, 40 * t, 40 * t + 39), (27, 40 * t, 40 * t + 39)])
def yLays (f t : Nat) : qCon := ((82, 0, 0), [(2, 0, 0), (0, (f : Int), (f : Int)), (0, (t : Int), (t : Int))], [], [], [(none, [], [], [], none)], [(24, t, t), (25, 40 * t, 40 * t + 39), (26, 40 * t, 40 * t + 39), (27, 40 * t, 40 * t + 39)])
def xYchk (f t : Nat) : Bool := qchk mD [] mtb_RX12 mMT [] 4 0 (xLays f t) pg_X12_laysLines [] [] [] 3000
theorem x_y50 : xYchk 5 0 = true := by decide +kernel
theorem x_y01 : xYchk 0 1 = true := by decide +kernel
theorem x_y02 : xYchk 0 2 = true := by decide +kernel
theorem x_y03 : xYchk 0 3 = true := by decide +kernel
theorem x_y04 : xYchk 0 4 = true := by decide +kernel
theorem x_y10 : xYchk 1 0 = true := by decide +kernel
theorem x_y20 : xYchk 2 0 = true := by decide +kernel
theorem x_y30 : xYchk 3 0 = true := by decide +kernel
theorem x_y40 : xYchk 4 0 = true := by decide +kernel

/-! worked: the row of what is open, told by its codes -/
def wL0 : List (List Nat) := [[], [1], [2], [1, 1], [2, 1], [1, 2], [2, 2]]
def wL1 : List (List Nat) := [[1, 1, 1], [2, 1, 1], [1, 2, 1], [2, 2, 1], [1, 1, 2], [2, 1, 2], [1, 2, 2]]
def wL2 : List (List Nat) := [[2, 2, 2], [1, 1, 1, 1], [2, 1, 1, 1], [1, 2, 1, 1], [2, 2, 1, 1], [1, 1, 2, 1], [2, 1, 2, 1]]
def wL3 : List (List Nat) := [[1, 2, 2, 1], [2, 2, 2, 1], [1, 1, 1, 2], [2, 1, 1, 2], [1, 2, 1, 2], [2, 2, 1, 2], [1, 1, 2, 2]]
def wL4 : List (List Nat) := [[2, 1, 2, 2], [1, 2, 2, 2], [2, 2, 2, 2], [1, 1, 1, 1, 1], [2, 1, 1, 1, 1], [1, 2, 1, 1, 1], [2, 2, 1, 1, 1]]
def wL5 : List (List Nat) := [[1, 1, 2, 1, 1], [2, 1, 2, 1, 1], [1, 2, 2, 1, 1], [2, 2, 2, 1, 1], [1, 1, 1, 2, 1], [2, 1, 1, 2, 1], [1, 2, 1, 2, 1]]
def wL6 : List (List Nat) := [[2, 2, 1, 2, 1], [1, 1, 2, 2, 1], [2, 1, 2, 2, 1], [1, 2, 2, 2, 1], [2, 2, 2, 2, 1], [1, 1, 1, 1, 2], [2, 1, 1, 1, 2]]
def wL7 : List (List Nat) := [[1, 2, 1, 1, 2], [2, 2, 1, 1, 2], [1, 1, 2, 1, 2], [2, 1, 2, 1, 2], [1, 2, 2, 1, 2], [2, 2, 2, 1, 2], [1, 1, 1, 2, 2]]
def wL8 : List (List Nat) := [[2, 1, 1, 2, 2], [1, 2, 1, 2, 2], [2, 2, 1, 2, 2], [1, 1, 2, 2, 2], [2, 1, 2, 2, 2], [1, 2, 2, 2, 2], [2, 2, 2, 2, 2]]
def wAll : List (List Nat) := wL0 ++ wL1 ++ wL2 ++ wL3 ++ wL4 ++ wL5 ++ wL6 ++ wL7 ++ wL8
def wB : List Nat → List (Nat × Nat × AV)
  | [] => []
  | a :: r => (22, r.length + 1, (1, 0, if a = 1 then 1 else 0)) :: wB r
def wK : List qIv := [(28, 28), (30, 30), (20, 22), (24, 27), (29, 29), (0, 19), (23, 23), (31, 10099)]
def wS (j : Nat) (st : List Nat) (κ : qIv) : AS := (([((j : Int), (j : Int)), (0, 999), (1, 1000), κ], [(2, 1, 1)], []), ([(0, (3, 0, 0)), (1, (0, 0, 0)), (2, (1, 0, (st.length : Int))), (3, (0, 1, 0))], []), ([], (11, qky (0, 1, 0), (0, 3, 0)) :: (10, j, (0, 2, 0)) :: wB st, []))
def wC (j : Nat) (st : List Nat) (κ : qIv) : AS := (([((j : Int), (j : Int)), (0, 999), (1, 1000), κ], [(2, 1, 2)], []), ([(0, (3, 0, 0)), (1, (0, 0, 0)), (2, (1, 0, (st.length : Int))), (3, (0, 1, 1))], []), ([], (10, j, (0, 2, 0)) :: wB st, []))
def wC0 (j : Nat) : AS := (([((j : Int), (j : Int)), (i32lo, i32hi), (i32lo, i32hi)], [(2, 1, 1)], []), ([(0, (3, 0, 0)), (1, (0, 0, 0)), (2, (1, 0, 0)), (3, (0, 1, 0))], []), ([], [(9, j, (0, 1, 0)), (10, j, (0, 2, 0))], []))
def wE (j : Nat) : AS := (([((j : Int), (j : Int))], [], []), ([(0, (3, 0, 0)), (1, (0, 0, 0))], []), ([], [], []))
def wchk (j : Nat) (st : List Nat) (κ : qIv) : Bool := match mDl st κ.1 with
  | none => true
  | some s => wAll.contains s && qrun mD mn_92.2.2.2.2.2 mXr mtb_RX12 mMT [mn_89, mn_90, mn_91] 2 43 6 1 mn_92 [(3, 0, 0), (0, 0, 0)] [] pg_X12_worked [] [] (qgo mD mn_92.2.2.2.2.2 mXr mtb_RX12 mMT [mn_89, mn_90, mn_91] 2 43 6 1 mn_92 [(3, 0, 0), (0, 0, 0)] [] pg_X12_worked [] [] 4 [] [(24, wC j s κ, (0, []))] 4 none 600) (wS j st κ) 24
theorem w_c0_0 : (wL0.all fun st => wK.all fun κ => wchk 0 st κ) = true := by decide +kernel
theorem w_c0_1 : (wL1.all fun st => wK.all fun κ => wchk 0 st κ) = true := by decide +kernel
theorem w_c0_2 : (wL2.all fun st => wK.all fun κ => wchk 0 st κ) = true := by decide +kernel
theorem w_c0_3 : (wL3.all fun st => wK.all fun κ => wchk 0 st κ) = true := by decide +kernel
theorem w_c0_4 : (wL4.all fun st => wK.all fun κ => wchk 0 st κ) = true := by decide +kernel
theorem w_c0_5 : (wL5.all fun st => wK.all fun κ => wchk 0 st κ) = true := by decide +kernel
theorem w_c0_6 : (wL6.all fun st => wK.all fun κ => wchk 0 st κ) = true := by decide +kernel
theorem w_c0_7 : (wL7.all fun st => wK.all fun κ => wchk 0 st κ) = true := by decide +kernel
theorem w_c0_8 : (wL8.all fun st => wK.all fun κ => wchk 0 st κ) = true := by decide +kernel
theorem w_c1_0 : (wL0.all fun st => wK.all fun κ => wchk 1 st κ) = true := by decide +kernel
theorem w_c1_1 : (wL1.all fun st => wK.all fun κ => wchk 1 st κ) = true := by decide +kernel
theorem w_c1_2 : (wL2.all fun st => wK.all fun κ => wchk 1 st κ) = true := by decide +kernel
theorem w_c1_3 : (wL3.all fun st => wK.all fun κ => wchk 1 st κ) = true := by decide +kernel
theorem w_c1_4 : (wL4.all fun st => wK.all fun κ => wchk 1 st κ) = true := by decide +kernel
theorem w_c1_5 : (wL5.all fun st => wK.all fun κ => wchk 1 st κ) = true := by decide +kernel
theorem w_c1_6 : (wL6.all fun st => wK.all fun κ => wchk 1 st κ) = true := by decide +kernel
theorem w_c1_7 : (wL7.all fun st => wK.all fun κ => wchk 1 st κ) = true := by decide +kernel
theorem w_c1_8 : (wL8.all fun st => wK.all fun κ => wchk 1 st κ) = true := by decide +kernel
theorem w_e0 : qrun mD mn_92.2.2.2.2.2 mXr mtb_RX12 mMT [mn_89, mn_90, mn_91] 2 43 6 1 mn_92 [(3, 0, 0), (0, 0, 0)] [] pg_X12_worked [] [] (qgo mD mn_92.2.2.2.2.2 mXr mtb_RX12 mMT [mn_89, mn_90, mn_91] 2 43 6 1 mn_92 [(3, 0, 0), (0, 0, 0)] [] pg_X12_worked [] [] 1 [] [(24, wC0 0, (0, []))] 4 none 600) (wE 0) 0 = true := by decide +kernel
theorem w_e1 : qrun mD mn_92.2.2.2.2.2 mXr mtb_RX12 mMT [mn_89, mn_90, mn_91] 2 43 6 1 mn_92 [(3, 0, 0), (0, 0, 0)] [] pg_X12_worked [] [] (qgo mD mn_92.2.2.2.2.2 mXr mtb_RX12 mMT [mn_89, mn_90, mn_91] 2 43 6 1 mn_92 [(3, 0, 0), (0, 0, 0)] [] pg_X12_worked [] [] 1 [] [(24, wC0 1, (0, []))] 4 none 600) (wE 1) 0 = true := by decide +kernel

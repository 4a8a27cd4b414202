/-! reads: by what is open: its segments -/
def oB : List Nat → List (Nat × Nat × AV)
  | [] => []
  | a :: r => (12, r.length + 1, (1, 0, (a : Int))) :: oB r
def rEn : List qIv := [(1, 1000), (1, 1000), (0, 999), (1, 4), (1000, 2000)]
def rRe : List (Nat × Nat × Int) := [(0, 5, 0), (5, 6, 1), (6, 8, -1000), (5, 1, 0), (6, 2, 0)]
def rMe : List (Nat × Nat × AV) := [(0, 3, (0, 0, 0)), (0, 4, (0, 5, 0)), (0, 5, (0, 6, 0)), (0, 6, (0, 7, 0)), (0, 20, (0, 8, 0))]
def rLo (n w : Nat) : List (Nat × AV) := [(0, (3, 0, 0)), (1, (1, 0, (n : Int))), (2, (1, 0, (w : Int)))]
def r11 (n w : Nat) : AS := ((rEn ++ [(1, 1000), (0, 999), (1, 4), (1000, 2000)], rRe, []), (rLo n w, []), ([], rMe, []))
def r11z (n w : Nat) : AS := ((rEn ++ [(1, 1000), (0, 1000)], [(0, 5, 0), (5, 6, 0), (5, 1, 0), (6, 2, 0)], []), (rLo n w, []), ([], [(0, 3, (0, 0, 0)), (0, 4, (0, 5, 0)), (0, 5, (0, 6, 0)), (0, 6, (1, 0, 0))], []))
/-- a place where a code is put: the call, the kind of the code, whether a value is wanted there, more locals -/
abbrev rK : Type := Nat × qIv × Nat × List (Nat × AV)
def rKs : List rK := [(99, (28, 28), 1, [(4, (1, 0, 0))]), (99, (30, 30), 1, [(4, (1, 0, 1))]), (147, (1, 4), 1, []), (147, (100, 10099), 1, []), (237, (20, 20), 0, []), (237, (21, 21), 0, []), (237, (22, 22), 0, []), (289, (24, 24), 0, []), (289, (25, 25), 0, []), (342, (26, 26), 0, []), (342, (27, 27), 0, []), (373, (29, 29), 0, [])]
def rV (κ : qIv) : AV := if κ.1 = κ.2 then (1, 0, κ.1) else (0, 9, 0)
def rP (n : Nat) (q : rK) : AS := ((rEn ++ [(1, 1000), (0, 999), (1, 4), (1000, 2000)] ++ (if q.2.1.1 = q.2.1.2 then [] else [q.2.1]), rRe, []), (rLo n q.2.2.1 ++ q.2.2.2, [rV q.2.1, (3, 0, 0)]), ([], rMe, []))
def rA (n : Nat) (q : rK) (o : List (Nat × Nat × AV)) : AS := ((rEn ++ [(1, 1000), (0, 999), (1, 4), (1001, 2000)], [(0, 5, 0), (5, 6, 1), (6, 8, -1001), (5, 1, 0), (6, 2, 0)], []), (rLo n q.2.2.1 ++ q.2.2.2, []), ([], rMe ++ o, []))
def rOk (n : Nat) (κ : qIv) : Bool := if κ.1 = 28 ∨ κ.1 = 30 then Nat.blt n 5 else if κ.1 = 29 then Nat.blt 0 n else true
def r11b (st : List Nat) (w : Nat) : AS := ((rEn ++ [(1, 1000), (0, 999), (1, 4), (1001, 2000), (1, 1000), (0, 999), (1, 4)], [(0, 9, 0), (9, 10, 1), (10, 8, -1000), (9, 1, 0), (10, 2, 0), (9, 5, 1)], []), (rLo st.length w, []), ([], [(0, 3, (0, 0, 0)), (0, 4, (0, 9, 0)), (0, 5, (0, 10, 0)), (0, 6, (0, 11, 0)), (0, 20, (0, 8, 0))] ++ oB st, []))
def r11zb (st : List Nat) (w : Nat) : AS := ((rEn ++ [(1, 1000), (0, 999), (1, 4), (1001, 2000), (1, 1000), (0, 1000)], [(0, 9, 0), (9, 10, 0), (9, 1, 0), (10, 2, 0)], []), (rLo st.length w, []), ([], [(0, 3, (0, 0, 0)), (0, 4, (0, 9, 0)), (0, 5, (0, 10, 0)), (0, 6, (1, 0, 0))] ++ oB st, []))
def rE : AS := ((rEn, [(2, 4, -1000), (1, 2, 1), (0, 1, 0)], []), ([(0, (3, 0, 0))], []), ([], [(0, 20, (0, 4, 0)), (0, 6, (0, 3, 0)), (0, 5, (0, 2, 0)), (0, 4, (0, 1, 0)), (0, 3, (0, 0, 0))], []))
def rW (q : rK) : Nat := if q.1 = 147 ∨ q.1 = 373 then 0 else 1
def rC (n : Nat) : qCon := match n with
  | 0 => mn_29
  | _ => (mn_29.1, mn_29.2.1, mn_29.2.2.1, mn_29.2.2.2.1, [(some (0, 0, 0), [], [], [], none)], mn_29.2.2.2.2.2)
def rBc : List qCon := [mn_11, mn_13, mn_14, mn_15, mn_17, mn_25, mn_26, mn_27]
def rRun (xr : List Nat) (n : Nat) (n0 : Nat) (cuts : List qCut) (S : AS) (pc : Nat) : Bool := qrun mD mn_29.2.2.2.2.2 xr mtb_RX12 mMT rBc 2 42 6 2 (rC n) [(3, 0, 0)] [(0, 0, 0), (0, 1, 0), (0, 2, 0), (0, 3, 0), (0, 4, 0)] pg_X12_reads [] [] (qgo mD mn_29.2.2.2.2.2 xr mtb_RX12 mMT rBc 2 42 6 2 (rC n) [(3, 0, 0)] [(0, 0, 0), (0, 1, 0), (0, 2, 0), (0, 3, 0), (0, 4, 0)] pg_X12_reads [] [] n0 [] cuts 0 none 900) S pc
def rCu (n w : Nat) : List qCut := (rKs.filter (fun q => q.2.2.1 == w && rOk n q.2.1)).map (fun q => (q.1, rP n q, (0, [])))
def rCall (n : Nat) (q : rK) : Bool := match qs_call mD mn_29.2.2.2.2.2 [rPuts q.2.1] mtb_RX12.2.1 mMT 2 42 true (rP n q) 209 q.1 with
  | some L => (3 : Nat) == 3 && L.all (fun y => ([(q.1 + 3, rA n q [], (0, []))] : List qCut).any (fun k => k.1 == y.2 && qcchk mD 8 [] 0 none y.1 k))
  | none => false
def rchk1 (n : Nat) : Bool := ([0, 1] : List Nat).all (fun w => rRun [0, 11, 12] n 9 (rCu n w) (r11 n w) 11 && rRun [0, 11, 12] n 7 [] (r11z n w) 11) && rKs.all (fun q => !(rOk n q.2.1) || rCall n q)
def rchk2 (st : List Nat) : Bool := rKs.all (fun q => match mDl st q.2.1.1 with
  | none => true
  | some s => wAll.contains s && rRun [0, 11] s.length 9 [(11, r11b s (rW q), (0, [])), (11, r11zb s (rW q), (0, []))] (rA st.length q (oB st)) (q.1 + 3))
theorem r_e : rRun [0, 11, 12] 0 5 [(11, r11 0 1, (0, []))] rE 0 = true := by decide +kernel
theorem r_d0 : rchk1 0 = true := by decide +kernel
theorem r_d1 : rchk1 1 = true := by decide +kernel
theorem r_d2 : rchk1 2 = true := by decide +kernel
theorem r_d3 : rchk1 3 = true := by decide +kernel
theorem r_d4 : rchk1 4 = true := by decide +kernel
theorem r_d5 : rchk1 5 = true := by decide +kernel
theorem r_dp {n : Nat} (h : n ≤ 5) : rchk1 n = true := by
  have : n = 0 ∨ n = 1 ∨ n = 2 ∨ n = 3 ∨ n = 4 ∨ n = 5 := by omega
  rcases this with rfl | rfl | rfl | rfl | rfl | rfl
  · exact r_d0
  · exact r_d1
  · exact r_d2
  · exact r_d3
  · exact r_d4
  · exact r_d5
theorem r_c0 : (wL0.all fun st => rchk2 st) = true := by decide +kernel
theorem r_c1 : (wL1.all fun st => rchk2 st) = true := by decide +kernel
theorem r_c2 : (wL2.all fun st => rchk2 st) = true := by decide +kernel
theorem r_c3 : (wL3.all fun st => rchk2 st) = true := by decide +kernel
theorem r_c4 : (wL4.all fun st => rchk2 st) = true := by decide +kernel
theorem r_c5 : (wL5.all fun st => rchk2 st) = true := by decide +kernel
theorem r_c6 : (wL6.all fun st => rchk2 st) = true := by decide +kernel
theorem r_c7 : (wL7.all fun st => rchk2 st) = true := by decide +kernel
theorem r_c8 : (wL8.all fun st => rchk2 st) = true := by decide +kernel
theorem r_all {st : List Nat} (h : st ∈ wAll) : rchk2 st = true := by
  have key : ∀ {L : List (List Nat)}, (L.all fun st => rchk2 st) = true → st ∈ L → rchk2 st = true := fun h hm => List.all_eq_true.mp h st hm
  unfold wAll at h
  simp only [List.mem_append] at h
  rcases h with (((((((h | h) | h) | h) | h) | h) | h) | h) | h
  · exact key r_c0 h
  · exact key r_c1 h
  · exact key r_c2 h
  · exact key r_c3 h
  · exact key r_c4 h
  · exact key r_c5 h
  · exact key r_c6 h
  · exact key r_c7 h
  · exact key r_c8 h

/-! reads: by what is open: its segments -/
def oB : List Nat → List (Nat × Nat × AV)
  | [] => []
  | a :: r => (12, r.length + 1, (1, 0, (a : Int))) :: oB r
def rEn : List qIv := [(1, 1000), (1, 1000), (0, 999), (1, 4), (1000, 2000)]
def rRe : List (Nat × Nat × Int) := [(0, 5, 0), (5, 6, 1), (6, 8, -1000), (5, 1, 0), (6, 2, 0)]
def rMe : List (Nat × Nat × AV) := [(0, 3, (0, 0, 0)), (0, 4, (0, 5, 0)), (0, 5, (0, 6, 0)), (0, 6, (0, 7, 0)), (0, 20, (0, 8, 0))]
def rLo (st : List Nat) (w : Nat) : List (Nat × AV) := [(0, (3, 0, 0)), (1, (1, 0, (st.length : Int))), (2, (1, 0, (w : Int)))]
def r11 (st : List Nat) (w : Nat) : AS := ((rEn ++ [(1, 1000), (0, 999), (1, 4), (1000, 2000)], rRe, []), (rLo st w, []), ([], rMe ++ oB st, []))
def r11z (st : List Nat) (w : Nat) : AS := ((rEn ++ [(1, 1000), (0, 1000)], [(0, 5, 0), (5, 6, 0), (5, 1, 0), (6, 2, 0)], []), (rLo st w, []), ([], [(0, 3, (0, 0, 0)), (0, 4, (0, 5, 0)), (0, 5, (0, 6, 0)), (0, 6, (1, 0, 0))] ++ oB st, []))
/-- a place where a code is put: the call, the kind of the code, whether a value is wanted there, more locals -/
abbrev rK : Type := Nat × qIv × Nat × List (Nat × AV)
def rKs : List rK := [(99, (28, 28), 1, [(4, (1, 0, 0))]), (99, (30, 30), 1, [(4, (1, 0, 1))]), (147, (1, 4), 1, []), (147, (100, 10099), 1, []), (237, (20, 20), 0, []), (237, (21, 21), 0, []), (237, (22, 22), 0, []), (289, (24, 24), 0, []), (289, (25, 25), 0, []), (342, (26, 26), 0, []), (342, (27, 27), 0, []), (373, (29, 29), 0, [])]
def rV (κ : qIv) : AV := if κ.1 = κ.2 then (1, 0, κ.1) else (0, 9, 0)
def rP (st : List Nat) (q : rK) : AS := ((rEn ++ [(1, 1000), (0, 999), (1, 4), (1000, 2000)] ++ (if q.2.1.1 = q.2.1.2 then [] else [q.2.1]), rRe, []), (rLo st q.2.2.1 ++ q.2.2.2, [rV q.2.1, (3, 0, 0)]), ([], rMe ++ oB st, []))
def rA (st : List Nat) (q : rK) : AS := ((rEn ++ [(1, 1000), (0, 999), (1, 4), (1001, 2000)], [(0, 5, 0), (5, 6, 1), (6, 8, -1001), (5, 1, 0), (6, 2, 0)], []), (rLo st q.2.2.1 ++ q.2.2.2, []), ([], rMe ++ oB st, []))
def r11b (st : List Nat) (w : Nat) : AS := ((rEn ++ [(1, 1000), (0, 999), (1, 4), (1001, 2000), (1, 1000), (0, 999), (1, 4)], [(0, 9, 0), (9, 10, 1), (10, 8, -1000), (9, 1, 0), (10, 2, 0), (9, 5, 1)], []), (rLo st w, []), ([], [(0, 3, (0, 0, 0)), (0, 4, (0, 9, 0)), (0, 5, (0, 10, 0)), (0, 6, (0, 11, 0)), (0, 20, (0, 8, 0))] ++ oB st, []))
def r11zb (st : List Nat) (w : Nat) : AS := ((rEn ++ [(1, 1000), (0, 999), (1, 4), (1001, 2000), (1, 1000), (0, 1000)], [(0, 9, 0), (9, 10, 0), (9, 1, 0), (10, 2, 0)], []), (rLo st w, []), ([], [(0, 3, (0, 0, 0)), (0, 4, (0, 9, 0)), (0, 5, (0, 10, 0)), (0, 6, (1, 0, 0))] ++ oB st, []))
def rE : AS := ((rEn, [(2, 4, -1000), (1, 2, 1), (0, 1, 0)], []), ([(0, (3, 0, 0))], []), ([], [(0, 20, (0, 4, 0)), (0, 6, (0, 3, 0)), (0, 5, (0, 2, 0)), (0, 4, (0, 1, 0)), (0, 3, (0, 0, 0))], []))
def rW (q : rK) : Nat := if q.1 = 147 ∨ q.1 = 373 then 0 else 1
def rC (st : List Nat) : qCon := match st with
  | [] => mn_29
  | _ => (mn_29.1, mn_29.2.1, mn_29.2.2.1, mn_29.2.2.2.1, [(some (0, 0, 0), [], [], [], none)], mn_29.2.2.2.2.2)
def rBc : List qCon := [mn_11, mn_13, mn_14, mn_15, mn_17, mn_25, mn_26, mn_27]
def rRun (st : List Nat) (n0 : Nat) (cuts : List qCut) (S : AS) (pc : Nat) : Bool := qrun mD mn_29.2.2.2.2.2 [0, 11] mtb_RX12 mMT rBc 2 42 6 2 (rC st) [(3, 0, 0)] [(0, 0, 0), (0, 1, 0), (0, 2, 0), (0, 3, 0), (0, 4, 0)] pg_X12_reads [] [] (qgo mD mn_29.2.2.2.2.2 [0, 11] mtb_RX12 mMT rBc 2 42 6 2 (rC st) [(3, 0, 0)] [(0, 0, 0), (0, 1, 0), (0, 2, 0), (0, 3, 0), (0, 4, 0)] pg_X12_reads [] [] n0 [] cuts 0 none 900) S pc
def rCu (st : List Nat) (w : Nat) : List qCut := (rKs.filter (fun q => q.2.2.1 == w && (mDl st q.2.1.1).isSome)).map (fun q => (q.1, rP st q, (0, [])))
def rCall (st : List Nat) (q : rK) : Bool := match qs_call mD mn_29.2.2.2.2.2 [rPuts q.2.1] mtb_RX12.2.1 mMT 2 42 true (rP st q) 209 q.1 with
  | some L => (3 : Nat) == 3 && L.all (fun y => ([(q.1 + 3, rA st q, (0, []))] : List qCut).any (fun k => k.1 == y.2 && qcchk mD 8 [] 0 none y.1 k))
  | none => false
def rchk1 (st : List Nat) : Bool := ([0, 1] : List Nat).all (fun w => rRun st 9 (rCu st w) (r11 st w) 11 && rRun st 7 [] (r11z st w) 11)
def rchk2 (st : List Nat) : Bool := rKs.all (fun q => match mDl st q.2.1.1 with
  | none => true
  | some s => wAll.contains s && rCall st q && rRun s 9 [(11, r11b s (rW q), (0, [])), (11, r11zb s (rW q), (0, []))] (rA st q) (q.1 + 3))
theorem r_e : rRun [] 5 [(11, r11 [] 1, (0, []))] rE 0 = true := by decide +kernel
theorem r_c0 : (wL0.all fun st => rchk1 st && rchk2 st) = true := by decide +kernel
theorem r_c1 : (wL1.all fun st => rchk1 st && rchk2 st) = true := by decide +kernel
theorem r_c2 : (wL2.all fun st => rchk1 st && rchk2 st) = true := by decide +kernel
theorem r_c3 : (wL3.all fun st => rchk1 st && rchk2 st) = true := by decide +kernel
theorem r_c4 : (wL4.all fun st => rchk1 st && rchk2 st) = true := by decide +kernel
theorem r_c5 : (wL5.all fun st => rchk1 st && rchk2 st) = true := by decide +kernel
theorem r_c6 : (wL6.all fun st => rchk1 st && rchk2 st) = true := by decide +kernel
theorem r_c7 : (wL7.all fun st => rchk1 st && rchk2 st) = true := by decide +kernel
theorem r_c8 : (wL8.all fun st => rchk1 st && rchk2 st) = true := by decide +kernel
theorem r_all {st : List Nat} (h : st ∈ wAll) : rchk1 st = true ∧ rchk2 st = true := by
  have key : ∀ {L : List (List Nat)}, (L.all fun st => rchk1 st && rchk2 st) = true → st ∈ L → rchk1 st = true ∧ rchk2 st = true := fun h hm => by
    have := List.all_eq_true.mp h st hm
    simpa only [Bool.and_eq_true] using this
  unfold wAll at h
  simp only [List.mem_append] at h
  rcases h with (((((((h | h) | h) | h) | h) | h) | h) | h) | h
  · exact key r_c0 h
  · exact key r_c1 h
  · exact key r_c2 h
  · exact key r_c3 h
  · exact key r_c4 h
  · exact key r_c5 h
  · exact key r_c6 h
  · exact key r_c7 h
  · exact key r_c8 h

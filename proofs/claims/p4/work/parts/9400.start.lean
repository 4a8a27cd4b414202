def R_law : String := "TithedThoughtsLaw"
def lw_P (b : Addr) (xs : List Int32) (args : Array Value) (s : State) : Prop := args = #[.ref b] ∧ s.IntsAt b xs ∧ xs.length ≤ 3584 ∧ (Jvm.Cond.and given_1 narrow_1).before args s = true
def lw_Q (_ : Array Value) (s : State) (o : Outcome) (t : State) : Prop := o = .returned (some (.int 1)) ∧ Framed s o t [] 601024 7293034
def lw_Z (below : List Frame) (a : Array Value) (s : State) : State → Prop := fun t => ∃ o, t.status = .running ∧ Ended t below o ∧ lw_Q a s o t
/-- the law's own end, with 1 on the stack, nothing written that was there before, its room as the claim has it -/
theorem lw_ret {p : Program} {l : Launch} {e : Env} {s : State} {m : MethodId} {below : List Frame} {meth : Method} {c : Code} {b : Nat} (hx : p.tables.exec = Jvm.exec) (hb : c.code = code) (hr : meth.sig.returnType = ret) (hlocks : meth.locks = false) {pc : Nat} {H : Heap} {ls : Array Slot} (hdg : decode code pc = .ok (.ireturn, 1)) : W p l e room_1 s m #[Value.ref b] below meth c H [] 601024 7293034 (lw_Z below #[Value.ref b] s) (F0 m pc ls [.int 1]) := by
  intro T hT X
  obtain ⟨fs, hret, hrun, hended, hW, hframe⟩ := X.leave (v := some (.int 1)) (hlocks := hlocks) (fun h => by rw [hr] at h; cases h)
  have hmeth' : T.vm.method? m = some meth := X.method'
  refine ⟨T.setFrames fs, ?_, .returned (some (.int 1)), hrun, hended, rfl, ⟨_, rfl⟩, hW, hframe⟩
  jvm_step X.here [X.here.top, hx, hb, hdg, hmeth', hr, ret, narrow_b1]
  (try refine ⟨rfl, ?_⟩); (try refine ⟨rfl, ?_⟩)
  first | (intro acts; rw [hret _ acts rfl rfl rfl]) | rw [hret _ _ rfl rfl rfl]
  exact Steps.refl _
/-- what holds at the law's entry: the machine, the code, the tables' words (any of lw_tbl by 'hts w (by decide +kernel)'), the script of L ints xs at the cell b, what the Statement gives of the start (any of its parts by flat_of_before) -/
def lw_At (p : Program) (s : State) (m : MethodId) (meth : Method) (c : Code) (b L : Nat) (xs : Nat → Int32) : Prop :=
  p.tables.exec = Jvm.exec ∧ c.code = code ∧ meth.sig.returnType = ret ∧ c.maxLocals = 7 ∧ s.vm.findClass R_law = some m.cls ∧ (∀ w ∈ lw_tbl, w.before #[Value.ref b] s = true) ∧ va_X b L xs s s.heap ∧ b < s.heap.size ∧ meth.locks = false ∧ (Jvm.Cond.and given_1 narrow_1).before #[Value.ref b] s = true

theorem k_arr {s : State} {args : Array Value} {ty : FieldType} (h : (Cond.arrayClass ty).before args s = true) (hs : ∀ C, ty ≠ .object C) : ∃ cA : ClassId, ArrOfT s cA ty ∧ va_RA s cA ty := by
  obtain ⟨cA, kA, comp, h1, h2, h3⟩ := Cond.arrayClass_spec h
  refine ⟨cA, fun n z => ⟨fun k h => (by cases h), kA, h2, comp, h3⟩, ?_⟩
  cases ty with
  | object C => exact absurd rfl (hs C)
  | _ => exact h1
theorem k_arrq {s : State} {args : Array Value} {C : String} (h : (Cond.arrayOver (.object C)).before args s = true) : ∃ cA : ClassId, ArrOfT s cA (.object C) ∧ va_RA s cA (.object C) := by
  obtain ⟨comp, cA, kA, f4, -, f2, f3, f1⟩ := Cond.arrayOver_spec h
  exact ⟨cA, fun n z => ⟨fun k h => (by cases h), kA, f2, comp, f3⟩, kA, comp, f2, f3, f4, f1⟩
theorem kN_of {w : Cond} (hw : w ∈ kN) {s : State} {args : Array Value} (h : w.before args s = true) : va_Nw w s := by
  have h1 := (List.mem_filter.mp hw).2
  cases w <;> first | exact va_Nw.of rfl h | (rename_i ty; cases ty <;> first | exact va_AO.of h | (exact absurd h1 (by simp [k_nest]))) | (exact absurd h1 (by simp [k_nest]))
theorem k_known {s : State} {args : Array Value} (hG : ∀ w ∈ kG, w.before args s = true) : ∃ D : va_G, ∀ (k : Nat) (q : vw_C), vwCl[k]? = some q → u_Kn s q.1 q.2.1 q.2.2 (D.1 k) (D.2 k) := by
  obtain ⟨c0, i0, h0⟩ := u_known (ws := kG) (C := RX0) (T := TX0) (N := 19) (n := 19) hG in_RX0 (hG _ gw_275)
  obtain ⟨c1, i1, h1⟩ := u_known (ws := kG) (C := RX1) (T := TX1) (N := 6) (n := 6) hG in_RX1 (hG _ gw_224)
  obtain ⟨c2, i2, h2⟩ := u_known (ws := kG) (C := RX2) (T := TX2) (N := 5) (n := 5) hG in_RX2 (hG _ gw_182)
  obtain ⟨c3, i3, h3⟩ := u_known (ws := kG) (C := RX3) (T := TX3) (N := 6) (n := 6) hG in_RX3 (hG _ gw_146)
  obtain ⟨c4, i4, h4⟩ := u_known (ws := kG) (C := RX4) (T := TX4) (N := 5) (n := 5) hG in_RX4 (hG _ gw_251)
  obtain ⟨c5, i5, h5⟩ := u_known (ws := kG) (C := RX5) (T := TX5) (N := 5) (n := 5) hG in_RX5 (hG _ gw_380)
  obtain ⟨c6, i6, h6⟩ := u_known (ws := kG) (C := RX6) (T := TX6) (N := 2) (n := 2) hG in_RX6 (hG _ gw_210)
  obtain ⟨c7, i7, h7⟩ := u_known (ws := kG) (C := RX7) (T := TX7) (N := 9) (n := 9) hG in_RX7 (hG _ gw_79)
  obtain ⟨c8, i8, h8⟩ := u_known (ws := kG) (C := RX8) (T := TX8) (N := 8) (n := 8) hG in_RX8 (hG _ gw_32)
  obtain ⟨c9, i9, h9⟩ := u_known (ws := kG) (C := RX9) (T := TX9) (N := 3) (n := 3) hG in_RX9 (hG _ gw_72)
  obtain ⟨c10, i10, h10⟩ := u_known (ws := kG) (C := RX11) (T := TX11) (N := 11) (n := 11) hG in_RX11 (hG _ gw_24)
  obtain ⟨c11, i11, h11⟩ := u_known (ws := kG) (C := RX12) (T := TX12) (N := 64) (n := 64) hG in_RX12 (hG _ gw_1183)
  have h : ∀ k : Nat, ∃ v : ClassId × (Nat → Nat), ∀ q : vw_C, vwCl[k]? = some q → u_Kn s q.1 q.2.1 q.2.2 v.1 v.2 := by
    intro k
    match k with
    | 0 => exact ⟨(c0, i0), fun q hq => by cases hq; exact h0⟩
    | 1 => exact ⟨(c1, i1), fun q hq => by cases hq; exact h1⟩
    | 2 => exact ⟨(c2, i2), fun q hq => by cases hq; exact h2⟩
    | 3 => exact ⟨(c3, i3), fun q hq => by cases hq; exact h3⟩
    | 4 => exact ⟨(c4, i4), fun q hq => by cases hq; exact h4⟩
    | 5 => exact ⟨(c5, i5), fun q hq => by cases hq; exact h5⟩
    | 6 => exact ⟨(c6, i6), fun q hq => by cases hq; exact h6⟩
    | 7 => exact ⟨(c7, i7), fun q hq => by cases hq; exact h7⟩
    | 8 => exact ⟨(c8, i8), fun q hq => by cases hq; exact h8⟩
    | 9 => exact ⟨(c9, i9), fun q hq => by cases hq; exact h9⟩
    | 10 => exact ⟨(c10, i10), fun q hq => by cases hq; exact h10⟩
    | 11 => exact ⟨(c11, i11), fun q hq => by cases hq; exact h11⟩
    | k + 12 => exact ⟨(c0, i0), fun q hq => by simp [vwCl] at hq⟩
  obtain ⟨f, hf⟩ := Classical.axiomOfChoice h
  exact ⟨(fun k => (f k).1, fun k => (f k).2), fun k q hq => hf k q hq⟩
theorem k_static {s : State} {b : Nat} (hts : ∀ w ∈ lw_tbl, w.before #[Value.ref b] s = true) (hgv : (Jvm.Cond.and given_1 narrow_1).before #[Value.ref b] s = true) {A : Nat → Prop} (hA : ∀ a : Nat, a < s.heap.size → ¬ A a) :
    (∃ t : Nat, va_Z RX10 "NOTHING" "LTithedThoughts$Word;" (.ref t) A s s.heap) ∧ vx_Zq Bundle.tN "UNASSIGNED_STACK" Bundle.steD A s s.heap ∧ vx_Zq Bundle.tN "SUPPRESSED_SENTINEL" Bundle.listD A s s.heap := by
  have hs := flat_of_before _ hgv
  refine ⟨?_, ?_, ?_⟩
  · have he : (Cond.exactly (.static "TithedThoughts$Word" "NOTHING" "LTithedThoughts$Word;") "TithedThoughts$Word").before #[Value.ref b] s = true := hs _ (by decide +kernel)
    obtain ⟨a2, _, _, _, q1, -⟩ := Cond.exactly_spec (args := #[Value.ref b]) (first := s) (o := none) (s := s) (idx := []) (t := .static "TithedThoughts$Word" "NOTHING" "LTithedThoughts$Word;") (cls := "TithedThoughts$Word") he
    exact ⟨a2, va_Zref (hts _ (by decide +kernel)) (hts _ (by decide +kernel)) q1 hA⟩
  · exact vx_Zqof (hts _ (by decide +kernel)) (hts _ (by decide +kernel)) (hs _ (by decide +kernel)) hA
  · exact vx_Zqof (hts _ (by decide +kernel)) (hts _ (by decide +kernel)) (hs _ (by decide +kernel)) hA
def kwd : String := "LTithedThoughts$Word;"
theorem k_wx : ∀ i : Nat, i < 26 → Cond.exactly (.static "TithedThoughts$Word" (kWn.getD i "") kwd) "TithedThoughts$Word" ∈ flatC (Jvm.Cond.and given_1 narrow_1) := by decide +kernel
theorem k_ws : ∀ i : Nat, i < 26 → Cond.laysStatic "TithedThoughts$Word" (kWn.getD i "") kwd ∈ lw_tbl := by decide +kernel
theorem k_wl : ∀ i : Nat, i < 26 → Cond.eq (.field (.static "TithedThoughts$Word" (kWn.getD i "") kwd) "TithedThoughts$Word" "letters" "J") (.long (kWl.getD i 0)) ∈ flatC (Jvm.Cond.and given_1 narrow_1) := by decide +kernel
theorem k_wm : ∀ i : Nat, i < 26 → Cond.eq (.field (.static "TithedThoughts$Word" (kWn.getD i "") kwd) "TithedThoughts$Word" "mayName" "Z") (.int (kWm.getD i 0)) ∈ flatC (Jvm.Cond.and given_1 narrow_1) := by decide +kernel
theorem k_wv : ∀ i : Nat, i < 26 → Cond.eq (.field (.static "TithedThoughts$Word" (kWn.getD i "") kwd) "TithedThoughts$Word" "value" "I") (.int (kWv.getD i 0)) ∈ flatC (Jvm.Cond.and given_1 narrow_1) := by decide +kernel
theorem k_we : ∀ i : Nat, i < 26 → Cond.eq (.elem (.static "TithedThoughts$Word" "ALL" "[LTithedThoughts$Word;") (.int (Int32.ofNat i))) (.static "TithedThoughts$Word" (kWn.getD i "") kwd) ∈ flatC (Jvm.Cond.and given_1 narrow_1) := by decide +kernel
theorem k_wrd {s : State} {b : Nat} (hts : ∀ w ∈ lw_tbl, w.before #[Value.ref b] s = true) (hgv : (Jvm.Cond.and given_1 narrow_1).before #[Value.ref b] s = true) {A : Nat → Prop} (hA : ∀ a : Nat, a < s.heap.size → ¬ A a) :
    ∃ ad : Nat → Nat, (∀ i : Nat, i < 26 → va_Z RX10 (kWn.getD i "") "LTithedThoughts$Word;" (.ref (ad i)) A s s.heap ∧ va_O RX10 (ad i) A s s.heap) ∧ va_Ef 26 RX10 "letters" "J" (fun i => .long (kWl.getD i 0)) ad A s s.heap ∧ va_Ef 26 RX10 "mayName" "Z" (fun i => .int (kWm.getD i 0)) ad A s s.heap ∧ va_Ef 26 RX10 "value" "I" (fun i => .int (kWv.getD i 0)) ad A s s.heap ∧
      ∃ t : Nat, va_Z RX10 "ALL" "[LTithedThoughts$Word;" (.ref t) A s s.heap ∧ va_T (.object RX10) t 26 (fun j => .ref (ad j)) A s s.heap := by
  have hs := flat_of_before _ hgv
  have h0 : ∀ i : Nat, ∃ t : Nat, i < 26 → (Term.static "TithedThoughts$Word" (kWn.getD i "") kwd).eval #[Value.ref b] s none [] s = some (.ref t) ∧ va_O RX10 t A s s.heap := by
    intro i
    by_cases hi : i < 26
    · obtain ⟨a, c, cell, k, q1, q2, q3, q4, q5, q6, -⟩ := Cond.exactly_spec (hs _ (k_wx i hi))
      exact ⟨a, fun _ => ⟨q1, cell, q3, q5, by rw [q6]; exact q2, hA a (Array.getElem?_eq_some_iff.mp q3).1⟩⟩
    · exact ⟨0, fun h => absurd h hi⟩
  obtain ⟨ad, had⟩ := Classical.axiomOfChoice h0
  have hini : (Cond.initialized "TithedThoughts$Word").before #[Value.ref b] s = true := hts _ (by decide +kernel)
  refine ⟨ad, fun i hi => ⟨va_Zref (hts _ (k_ws i hi)) hini (had i hi).1 hA, (had i hi).2⟩, va_Efof (nm := kWn) (tm := fun i => .long (kWl.getD i 0)) (fun i hi => (had i hi).1) (fun i hi => hs _ (k_wl i hi)) (fun i _ => rfl) hA, va_Efof (nm := kWn) (tm := fun i => .int (kWm.getD i 0)) (fun i hi => (had i hi).1) (fun i hi => hs _ (k_wm i hi)) (fun i _ => rfl) hA, va_Efof (nm := kWn) (tm := fun i => .int (kWv.getD i 0)) (fun i hi => (had i hi).1) (fun i hi => hs _ (k_wv i hi)) (fun i _ => rfl) hA, ?_⟩
  obtain ⟨t, ht1, ht2⟩ := va_Tof (args := #[Value.ref b]) (s := s) (tm := .static "TithedThoughts$Word" "ALL" "[LTithedThoughts$Word;") (ty := .object "TithedThoughts$Word") (N := 26) (f := fun j => .ref (ad j)) (A := A) (by decide) (hs _ (by decide +kernel)) (va_eqt (hs _ (by decide +kernel))) (fun j hj => va_eqv (hs _ (k_we j hj)) (had j hj).1) hA
  exact ⟨t, va_Zref (hts _ (by decide +kernel)) hini ht1 hA, ht2⟩
theorem k_begin {p : Program} {s : State} {m : MethodId} {meth : Method} {c : Code} {b L : Nat} {xs : Nat → Int32} (C0 : lw_At p s m meth c b L xs) : ∃ γ : kΓ, γ.2.2.2.1 = γ.2.2.2.2 0 ∧ kC γ p s m [Value.ref b].toArray c code 7 RL (fun q => s.heap.size ≤ q) := by
  obtain ⟨hx, hb, hr, hml, hown, hts, hX, hbl, hlocks, hgv⟩ := C0
  have hG : ∀ w ∈ kG, w.before #[Value.ref b] s = true := fun w h => hts w (List.mem_filter.mp h).1
  have hN : ∀ w ∈ kN, va_Nw w s := fun w h => kN_of h (hts w (List.mem_filter.mp h).1)
  obtain ⟨D, hD⟩ := k_known hG
  obtain ⟨-, hU, hS⟩ := k_static hts hgv (A := fun q => s.heap.size ≤ q) (fun a h1 h2 => Nat.not_le.mpr h1 h2)
  obtain ⟨ad, hwd⟩ := k_wrd hts hgv (A := fun q => s.heap.size ≤ q) (fun a h1 h2 => Nat.not_le.mpr h1 h2)
  obtain ⟨a0, p0⟩ := k_arr (hG _ gw_132) (fun _ h => by cases h)
  obtain ⟨a1, p1⟩ := k_arr (hG _ gw_133) (fun _ h => by cases h)
  obtain ⟨a2, p2⟩ := k_arr (hG _ gw_70) (fun _ h => by cases h)
  obtain ⟨a3, p3⟩ := k_arr (hG _ gw_249) (fun _ h => by cases h)
  obtain ⟨a4, p4⟩ := k_arrq (C := RX3) (kN_use nw_180 (hN _ nw_180) (args := #[Value.ref b]))
  obtain ⟨a5, p5⟩ := k_arrq (C := RX7) (kN_use nw_78 (hN _ nw_78) (args := #[Value.ref b]))
  refine ⟨(D, fun k => match k with | 0 => a0 | 1 => a1 | 2 => a2 | 3 => a3 | 4 => a4 | _ => a5, s.heap.size, ad 0, ad), rfl, hx, hb, hml, hown, hG, ⟨⟨hD, ?_⟩, hN, (hwd.1 0 (by decide)).1, hU, hS, hwd⟩, fun _ h => h, fun _ h => h⟩
  intro k q hk
  match k, hk with
  | 0, hk => cases hk; exact p0
  | 1, hk => cases hk; exact p1
  | 2, hk => cases hk; exact p2
  | 3, hk => cases hk; exact p3
  | 4, hk => cases hk; exact p4
  | 5, hk => cases hk; exact p5
  | k + 6, hk => simp [kT] at hk

/-! my own rows over the kit: one list of words for all methods, one bundle for what a method stands on, one form of contract -/
def kG : List Cond := lw_tbl.filter goodWord
def k_nest : Cond → Bool
  | .fieldLinkNest _ _ _ _ _ _ => true
  | .methodLinkNest _ _ _ _ => true
  | .castable _ _ => true
  | .arrayOver (.object _) => true
  | _ => false
def kN : List Cond := lw_tbl.filter k_nest
theorem kG_mk {w : Cond} (h : w ∈ lw_tbl) (hg : goodWord w = true) : w ∈ kG := List.mem_filter.mpr ⟨h, hg⟩
theorem kN_mk {w : Cond} (h : w ∈ lw_tbl) (hg : k_nest w = true) : w ∈ kN := List.mem_filter.mpr ⟨h, hg⟩
theorem kG_t {w : Cond} (i : Nat) (h : tables_1[i]? = some w) (hg : goodWord w = true) : w ∈ kG := kG_mk (List.mem_append_right _ (List.mem_of_getElem? h)) hg
theorem kG_p {w : Cond} (h : w ∈ k2_sels lw_privs) (hg : goodWord w = true) : w ∈ kG := kG_mk (List.mem_append_left _ h) hg
theorem kT_1 {w : Cond} (i : Nat) (h : tables_1_1[i]? = some w) : w ∈ lw_tbl := List.mem_append_right _ (List.mem_append_left _ (List.mem_of_getElem? h))
theorem kT_2 {w : Cond} (i : Nat) (h : tables_1_2[i]? = some w) : w ∈ lw_tbl := List.mem_append_right _ (List.mem_append_right _ (List.mem_append_left _ (List.mem_of_getElem? h)))
theorem kT_3 {w : Cond} (i : Nat) (h : tables_1_3[i]? = some w) : w ∈ lw_tbl := List.mem_append_right _ (List.mem_append_right _ (List.mem_append_right _ (List.mem_append_left _ (List.mem_of_getElem? h))))
theorem kT_4 {w : Cond} (i : Nat) (h : tables_1_4[i]? = some w) : w ∈ lw_tbl := List.mem_append_right _ (List.mem_append_right _ (List.mem_append_right _ (List.mem_append_right _ (List.mem_append_left _ (List.mem_of_getElem? h)))))
theorem kT_5 {w : Cond} (i : Nat) (h : tables_1_5[i]? = some w) : w ∈ lw_tbl := List.mem_append_right _ (List.mem_append_right _ (List.mem_append_right _ (List.mem_append_right _ (List.mem_append_right _ (List.mem_append_left _ (List.mem_of_getElem? h))))))
theorem kT_6 {w : Cond} (i : Nat) (h : tables_1_6[i]? = some w) : w ∈ lw_tbl := List.mem_append_right _ (List.mem_append_right _ (List.mem_append_right _ (List.mem_append_right _ (List.mem_append_right _ (List.mem_append_right _ (List.mem_append_left _ (List.mem_of_getElem? h)))))))
theorem kT_7 {w : Cond} (i : Nat) (h : tables_1_7[i]? = some w) : w ∈ lw_tbl := List.mem_append_right _ (List.mem_append_right _ (List.mem_append_right _ (List.mem_append_right _ (List.mem_append_right _ (List.mem_append_right _ (List.mem_append_right _ (List.mem_append_left _ (List.mem_of_getElem? h))))))))
theorem kT_8 {w : Cond} (i : Nat) (h : tables_1_8[i]? = some w) : w ∈ lw_tbl := List.mem_append_right _ (List.mem_append_right _ (List.mem_append_right _ (List.mem_append_right _ (List.mem_append_right _ (List.mem_append_right _ (List.mem_append_right _ (List.mem_append_right _ (List.mem_of_getElem? h))))))))
theorem kN_t {w : Cond} (i : Nat) (h : tables_1[i]? = some w) (hg : k_nest w = true) : w ∈ kN := kN_mk (List.mem_append_right _ (List.mem_of_getElem? h)) hg
theorem kG_good {w : Cond} (h : w ∈ kG) : (w.onTables && w.keeps) = true ∨ ∃ ty, w = .arrayClass ty := good_of_word (List.mem_filter.mp h).2
theorem kG_in {big : List Cond} (hb : ∀ w ∈ kG, w ∈ big) {ws : List Cond} (h : ∀ w ∈ ws, w ∈ kG) : GoodIn big ws := fun w hw => ⟨hb w (h w hw), kG_good (h w hw)⟩
/-- the tables of a world: classes, slots; the array classes; where the law's own cells begin; the word NOTHING -/
abbrev kΓ : Type := va_G × (Nat → ClassId) × Nat × Nat × (Nat → Nat)
abbrev kT (κ : Nat → ClassId) : List (ClassId × FieldType) := [(κ 0, .int), (κ 1, .long), (κ 2, .byte), (κ 3, .boolean), (κ 4, .object RX3), (κ 5, .object RX7)]
def kWn : List String := ["NOTHING", "NAME", "THOUGHT_WORD", "WORTH", "PART", "FOLLOWS", "TENANT", "TITHE", "RUNS", "ENGINE", "GAINS", "BACK", "THINK_WORD", "GATE_WORD", "POOL_WORD", "PLAIN_WORD", "SIMPLE_WORD", "CLEVER_WORD", "RUNNER_WORD", "NOT_WORD", "AND_WORD", "OR_WORD", "COUNTED_WORD", "RICH_WORD", "PIECE_WORD", "BARN_WORD"]
def kWl : List Int64 := [0, 0, 21759696148, 24627848, 525908, 6958759667, 676791764, 21287173, 611795, 182691269, 7382483, 66667, 21243339, 231045, 540140, 17171758, 647414149, 113432754, 626473138, 14836, 1476, 498, 3747041444, 599144, 17077349, 67150]
def kWm : List Int32 := [0, 1, 0, 0, 0, 0, 0, 0, 0, 0, 0, 0, 0, 0, 0, 0, 0, 0, 0, 0, 0, 0, 1, 1, 1, 1]
def kWv : List Int32 := [0, 0, 0, 0, 0, 0, 0, 1, 2, 4, 8, 16, 0, 1, 2, 0, 1, 2, 3, (-5), (-6), (-7), (-1), (-2), (-3), (-4)]
/-- the words: twenty-six constants, their letters, whether they may name, their values; and the row of all -/
def kZw (γ : kΓ) (A : Nat → Prop) (U : State) (H : Heap) : Prop :=
  (∀ i : Nat, i < 26 → va_Z RX10 (kWn.getD i "") "LTithedThoughts$Word;" (.ref (γ.2.2.2.2 i)) A U H ∧ va_O RX10 (γ.2.2.2.2 i) A U H) ∧ va_Ef 26 RX10 "letters" "J" (fun i => .long (kWl.getD i 0)) γ.2.2.2.2 A U H ∧ va_Ef 26 RX10 "mayName" "Z" (fun i => .int (kWm.getD i 0)) γ.2.2.2.2 A U H ∧ va_Ef 26 RX10 "value" "I" (fun i => .int (kWv.getD i 0)) γ.2.2.2.2 A U H ∧
  ∃ t : Nat, va_Z RX10 "ALL" "[LTithedThoughts$Word;" (.ref t) A U H ∧ va_T (.object RX10) t 26 (fun j => .ref (γ.2.2.2.2 j)) A U H
theorem kZw.moved {γ : kΓ} {A : Nat → Prop} {s U : State} {H : Heap} (hW : s.vm.Alike U.vm) (h : kZw γ A s H) : kZw γ A U H :=
  ⟨fun i hi => ⟨va_Z.moved hW (h.1 i hi).1, va_O.moved hW (h.1 i hi).2⟩, va_Ef.moved hW h.2.1, va_Ef.moved hW h.2.2.1, va_Ef.moved hW h.2.2.2.1, h.2.2.2.2.elim (fun t ht => ⟨t, va_Z.moved hW ht.1, va_T.moved hW ht.2⟩)⟩
theorem kZw.kept {γ : kΓ} {A : Nat → Prop} {U : State} {H H1 : Heap} (h : kZw γ A U H) (hq : ∀ a : Nat, a < H.size → ¬ A a → H1[a]? = H[a]?) : kZw γ A U H1 :=
  ⟨fun i hi => ⟨va_Z.kept (h.1 i hi).1 hq, va_O.kept (h.1 i hi).2 hq⟩, va_Ef.kept h.2.1 hq, va_Ef.kept h.2.2.1 hq, va_Ef.kept h.2.2.2.1 hq, h.2.2.2.2.elim (fun t ht => ⟨t, va_Z.kept ht.1 hq, va_T.kept ht.2 hq⟩)⟩
theorem kZw.narrow {γ : kΓ} {A B : Nat → Prop} {U : State} {H : Heap} (h : kZw γ A U H) (hq : ∀ q, B q → A q) : kZw γ B U H :=
  ⟨fun i hi => ⟨va_Z.narrow (h.1 i hi).1 hq, va_O.narrow (h.1 i hi).2 hq⟩, va_Ef.narrow h.2.1 hq, va_Ef.narrow h.2.2.1 hq, va_Ef.narrow h.2.2.2.1 hq, h.2.2.2.2.elim (fun t ht => ⟨t, va_Z.narrow ht.1 hq, va_T.narrow ht.2 hq⟩)⟩
def kE (γ : kΓ) (U : State) (H : Heap) : Prop :=
  va_K γ.1 vwCl (kT γ.2.1) U ∧ (∀ w ∈ kN, va_Nw w U) ∧ va_Z RX10 "NOTHING" "LTithedThoughts$Word;" (.ref γ.2.2.2.1) (fun q => γ.2.2.1 ≤ q) U H ∧
  vx_Zq Bundle.tN "UNASSIGNED_STACK" Bundle.steD (fun q => γ.2.2.1 ≤ q) U H ∧ vx_Zq Bundle.tN "SUPPRESSED_SENTINEL" Bundle.listD (fun q => γ.2.2.1 ≤ q) U H ∧ kZw γ (fun q => γ.2.2.1 ≤ q) U H
theorem kN_warm {w : Cond} (hw : w ∈ kN) {s U : State} (hW : s.WarmedH U.vm) (h : va_Nw w s) : va_Nw w U := by
  have h1 := (List.mem_filter.mp hw).2
  cases w <;> first | exact va_Nw.warmF hW h | exact va_Nw.warmM hW h | (exact va_tabs rfl (rfl : (s.setVm U.vm).vm = U.vm) (by rw [Cond.castable_setVm hW.alike]; exact h)) | (rename_i ty; cases ty <;> first | exact va_AO.moved hW.alike h | (exact absurd h1 (by simp [k_nest]))) | (exact absurd h1 (by simp [k_nest]))
theorem kE.moved {γ : kΓ} {s U : State} {H : Heap} (hW : s.WarmedH U.vm) (h : kE γ s H) : kE γ U H :=
  ⟨va_K.moved hW.alike h.1, fun w hw => kN_warm hw hW (h.2.1 w hw), va_Z.moved hW.alike h.2.2.1, vx_Zq.moved hW.alike h.2.2.2.1, vx_Zq.moved hW.alike h.2.2.2.2.1, kZw.moved hW.alike h.2.2.2.2.2⟩
theorem kE.kept {γ : kΓ} {U : State} {H H1 : Heap} (h : kE γ U H) (hq : ∀ a : Nat, a < H.size → ¬ γ.2.2.1 ≤ a → H1[a]? = H[a]?) : kE γ U H1 :=
  ⟨h.1, h.2.1, va_Z.kept h.2.2.1 hq, vx_Zq.kept h.2.2.2.1 hq, vx_Zq.kept h.2.2.2.2.1 hq, kZw.kept h.2.2.2.2.2 hq⟩
theorem kE.calling {γ : kΓ} {U : State} {g : JFrame} {mk : MethodId} {a : Array Value} (h : kE γ U U.heap) : kE γ (U.calling g mk a) (U.calling g mk a).heap :=
  ⟨va_K.moved (u := U) (U := U.calling g mk a) (Vm.Alike.refl U.vm) h.1, fun w hw => kN_warm hw (s := U) (U := U.calling g mk a) (State.WarmedH.refl U) (h.2.1 w hw),
   va_Z.moved (u := U) (U := U.calling g mk a) (Vm.Alike.refl U.vm) h.2.2.1, vx_Zq.moved (u := U) (U := U.calling g mk a) (Vm.Alike.refl U.vm) h.2.2.2.1, vx_Zq.moved (u := U) (U := U.calling g mk a) (Vm.Alike.refl U.vm) h.2.2.2.2.1, kZw.moved (s := U) (U := U.calling g mk a) (Vm.Alike.refl U.vm) h.2.2.2.2.2⟩
/-- what a method stands on -/
def kC (γ : kΓ) (p : Program) (s : State) (m : MethodId) (args : Array Value) (c : Code) (cc : ByteArray) (nL : Nat) (own : String) (A : Nat → Prop) : Prop :=
  p.tables.exec = Jvm.exec ∧ c.code = cc ∧ c.maxLocals = nL ∧ s.vm.findClass own = some m.cls ∧ (∀ w ∈ kG, w.before args s = true) ∧ kE γ s s.heap ∧ (∀ q : Nat, s.heap.size ≤ q → A q) ∧ (∀ q : Nat, A q → γ.2.2.1 ≤ q)
/-- the world -/
def kW (γ : kΓ) (A : Nat → Prop) (ws : va_W) (s : State) (H : Heap) (locs : List Loc) : Prop := va_P γ.1 vwCl ws H ∧ va_D A ws ∧ va_S A s.heap H locs
def kP (γ : kΓ) (av : List Value) (wc : va_W) (sz : Nat) : Array Value → State → Prop := fun v U => v = av.toArray ∧ U.heap.size = sz ∧ va_P γ.1 vwCl wc U.heap ∧ va_D (fun q => γ.2.2.1 ≤ q) wc ∧ γ.2.2.1 ≤ sz ∧ kE γ U U.heap
def kQ (γ : kΓ) (A : Nat → Prop) (post : Option Value → va_W → Prop) : Array Value → State → Outcome → State → Prop := fun _ st oc t =>
  (∃ (r : Option Value) (w1 : va_W), oc = .returned r ∧ post r w1 ∧ va_P γ.1 vwCl w1 t.heap ∧ va_D A w1) ∧ va_F A st t
/-- a contract: method y on the cells wc with the arguments av; post of its answer and of the cells that come back -/
def kM (γ : kΓ) (l : Launch) (y : MethodName) (cc : ByteArray) (maxL : Nat) (ret : Option FieldType) (rm : Room) (av : List Value) (wc : va_W) (post : Option Value → va_W → Prop) : Prop :=
  ∀ sz : Nat, Met l y (.code y cc maxL ret :: kG) rm (kP γ av wc sz) (kQ γ (va_A wc sz) post) rm.cells rm.slots (va_A wc sz)
theorem k_ofW {γ : kΓ} {l : Launch} {y : MethodName} {cc : ByteArray} {maxL : Nat} {ret : Option FieldType} {rm : Room} {av : List Value} {wc : va_W} {post : Option Value → va_W → Prop}
    (hy : plainName y.cls = true) (hn : (lg_sl av).length ≤ maxL)
    (body : ∀ (p : Program) (e : Env) (s : State) (m : MethodId) (below : List Frame) (meth : Method) (c : Code) (A : Nat → Prop) (ls : Array Slot), kC γ p s m av.toArray c cc maxL y.cls A → meth.sig.returnType = ret → meth.locks = false → meth.name = y.name →
      kW γ A wc s s.heap [] → lv_has ls maxL (lv_args 0 av) →
      W p l e rm s m av.toArray below meth c s.heap [] 0 0 (MQ below (kQ γ A post) av.toArray s rm.cells rm.slots A) (F0 m 0 ls [])) : kM γ l y cc maxL ret rm av wc post := by
  intro sz
  refine Met.ofW (cc := cc) (maxL := maxL) (ret := ret) hy rfl ?_
  intro p e s m args below meth c s₁ B hml hv
  obtain ⟨rfl, hsz, hP, hD0, hb0, hE⟩ := hv
  have hts := atoms_spec (ws := .code y cc maxL ret :: kG) B.pre
  subst hsz
  rw [lg_entry_eq]
  exact body p e s m below meth c (va_A wc s.heap.size) _ ⟨B.exec, B.bytes, hml, findClass_of_methodNamed B.named, fun w hw => hts w (List.mem_cons_of_mem _ hw), hE, fun q h => Or.inr h, fun q h => by
      rcases h with ⟨k, e9, h⟩ | h
      · exact hD0.2 k _ h
      · exact Nat.le_trans hb0 h⟩ B.returns B.notSynchronized (name_of_methodNamed B.named B.method).1 ⟨hP, hD0.self, va_S.rf⟩ (lv_entry av hn)
section KW
variable {γ : kΓ} {p : Program} {l : Launch} {e : Env} {R : Room} {s : State} {m : MethodId} {args : Array Value} {below : List Frame} {meth : Method} {c : Code} {H : Heap} {locs : List Loc} {cells slots : Nat} {Q : State → Prop}
variable {cc : ByteArray} {nL pc : Nat} {own : String} {A : Nat → Prop} {ws : va_W} {ls : Array Slot} {rest st0 : List Value}
theorem kW.sub (hw : kW γ A ws s H locs) (is : List Nat) {ws' : va_W} (hn : va_nd is = true) (hs : is.map (fun i => ws[i]?) = ws'.map some) : kW γ A ws' s H locs := by
  refine ⟨fun k q hk => ?_, hw.2.1.sub is hn hs, hw.2.2⟩
  have h1 : (is.map (fun i => ws[i]?))[k]? = some (some q) := by rw [hs, List.getElem?_map, hk]; rfl
  rw [List.getElem?_map] at h1
  cases hi : is[k]? with
  | none => rw [hi] at h1; cases h1
  | some i => rw [hi] at h1; exact hw.1 i q (Option.some.inj h1)
theorem k_get (hC : kC γ p s m args c cc nL own A) (hw : kW γ A ws s H locs) {C : String} {T : u_T} {N ci index : Nat} (hin : ∀ w ∈ u_ws C T N, w ∈ kG) {k : Nat} (hg : Cond.fieldLink own index (T k).1 (T k).2.1 (T k).2.2.1 ∈ kG) (hc : vwCl[ci]? = some (C, T, N)) (hk : k < N)
    (q0 : Nat) {a : Nat} {fs : List Value} (he : ws[q0]? = some (a, .inr (ci, fs))) {v : Value} (hv : fs[k]? = some v) (hdg : decode cc pc = .ok (.getfield index, 3))
    (kk : W p l e R s m args below meth c H locs cells slots Q (F0 m (pc + 3) ls (v :: rest))) : W p l e R s m args below meth c H locs cells slots Q (F0 m pc ls (.ref a :: rest)) :=
  va_get hC.1 hC.2.1 hC.2.2.2.2.1 hin hC.2.2.2.1 hC.2.2.2.2.2.1.1 hw.1 q0 he hc k hk (hC.2.2.2.2.1 _ hg) (fun _ h => h) hv hdg kk
theorem k_getN (hC : kC γ p s m args c cc nL own A) (hw : kW γ A ws s H locs) {C host : String} {T : u_T} {N ci index : Nat} (hin : ∀ w ∈ u_ws C T N, w ∈ kG) {k : Nat} (hg : Cond.fieldLinkNest own index (T k).1 (T k).2.1 (T k).2.2.1 host ∈ kN) (hc : vwCl[ci]? = some (C, T, N)) (hk : k < N)
    (q0 : Nat) {a : Nat} {fs : List Value} (he : ws[q0]? = some (a, .inr (ci, fs))) {v : Value} (hv : fs[k]? = some v) (hdg : decode cc pc = .ok (.getfield index, 3))
    (kk : W p l e R s m args below meth c H locs cells slots Q (F0 m (pc + 3) ls (v :: rest))) : W p l e R s m args below meth c H locs cells slots Q (F0 m pc ls (.ref a :: rest)) :=
  va_getN hC.1 hC.2.1 hC.2.2.2.2.1 hin hC.2.2.2.1 hC.2.2.2.2.2.1.1 hw.1 q0 he hc k hk (va_Nw.use rfl (hC.2.2.2.2.2.1.2.1 _ hg)) (fun _ h => h) hv hdg kk
theorem k_put (hC : kC γ p s m args c cc nL own A) (hw : kW γ A ws s H locs) {C : String} {T : u_T} {N ci index : Nat} (hin : ∀ w ∈ u_ws C T N, w ∈ kG) (ty0 : Nat → FieldType) (hty : ∀ k, k < N → parseFieldDescriptor (T k).2.2.1 = some (ty0 k)) (hnm : ∀ a, a < N → ∀ b, b < N → a ≠ b → (T a).2.1 ≠ (T b).2.1)
    {k : Nat} (hg : Cond.fieldLink own index (T k).1 (T k).2.1 (T k).2.2.1 ∈ kG) (hc : vwCl[ci]? = some (C, T, N)) (hk : k < N) (hfin : (T k).2.2.2 = false)
    (q0 : Nat) {a : Nat} {fs : List Value} (he : ws[q0]? = some (a, .inr (ci, fs))) {v : Value} (hn : narrow (ty0 k) v = v) (hfit : fits (ty0 k) v = true) (hl : k < fs.length) (hdg : decode cc pc = .ok (.putfield index, 3))
    (kk : ∀ (H1 : Heap) (locs1 : List Loc), kW γ A (ws.set q0 (a, .inr (ci, fs.set k v))) s H1 locs1 → W p l e R s m args below meth c H1 locs1 cells slots Q (F0 m (pc + 3) ls rest)) : W p l e R s m args below meth c H locs cells slots Q (F0 m pc ls (v :: .ref a :: rest)) :=
  va_put hC.1 hC.2.1 hC.2.2.2.2.1 hin ty0 hty hnm hC.2.2.2.1 hC.2.2.2.2.2.1.1 hw.1 hw.2.1 hw.2.2 q0 he hc k hk (hC.2.2.2.2.1 _ hg) (fun _ h => h) hfin (hty k hk) hn hfit hl hdg (fun H1 locs1 h1 h2 h3 => kk H1 locs1 ⟨h1, h2, h3⟩)
theorem k_putF (hC : kC γ p s m args c cc nL own A) (hw : kW γ A ws s H locs) {C : String} {T : u_T} {N ci index : Nat} (hin : ∀ w ∈ u_ws C T N, w ∈ kG) (ty0 : Nat → FieldType) (hty : ∀ k, k < N → parseFieldDescriptor (T k).2.2.1 = some (ty0 k)) (hnm : ∀ a, a < N → ∀ b, b < N → a ≠ b → (T a).2.1 ≠ (T b).2.1)
    {k : Nat} (hg : Cond.fieldLink own index (T k).1 (T k).2.1 (T k).2.2.1 ∈ kG) (hc : vwCl[ci]? = some (C, T, N)) (hk : k < N) (hfin : (T k).2.2.2 = true) (hin2 : meth.name = "<init>") (hdecl : (T k).1 = own)
    (q0 : Nat) {a : Nat} {fs : List Value} (he : ws[q0]? = some (a, .inr (ci, fs))) {v : Value} (hn : narrow (ty0 k) v = v) (hfit : fits (ty0 k) v = true) (hl : k < fs.length) (hdg : decode cc pc = .ok (.putfield index, 3))
    (kk : ∀ (H1 : Heap) (locs1 : List Loc), kW γ A (ws.set q0 (a, .inr (ci, fs.set k v))) s H1 locs1 → W p l e R s m args below meth c H1 locs1 cells slots Q (F0 m (pc + 3) ls rest)) : W p l e R s m args below meth c H locs cells slots Q (F0 m pc ls (v :: .ref a :: rest)) :=
  va_putF hC.1 hC.2.1 hC.2.2.2.2.1 hin ty0 hty hnm hC.2.2.2.1 hC.2.2.2.2.2.1.1 hw.1 hw.2.1 hw.2.2 q0 he hc k hk (hC.2.2.2.2.1 _ hg) (fun _ h => h) hfin hin2 hdecl (hty k hk) hn hfit hl hdg (fun H1 locs1 h1 h2 h3 => kk H1 locs1 ⟨h1, h2, h3⟩)
theorem k_putN (hC : kC γ p s m args c cc nL own A) (hw : kW γ A ws s H locs) {C host : String} {T : u_T} {N ci index : Nat} (hin : ∀ w ∈ u_ws C T N, w ∈ kG) (ty0 : Nat → FieldType) (hty : ∀ k, k < N → parseFieldDescriptor (T k).2.2.1 = some (ty0 k)) (hnm : ∀ a, a < N → ∀ b, b < N → a ≠ b → (T a).2.1 ≠ (T b).2.1)
    {k : Nat} (hg : Cond.fieldLinkNest own index (T k).1 (T k).2.1 (T k).2.2.1 host ∈ kN) (hc : vwCl[ci]? = some (C, T, N)) (hk : k < N) (hfin : (T k).2.2.2 = false)
    (q0 : Nat) {a : Nat} {fs : List Value} (he : ws[q0]? = some (a, .inr (ci, fs))) {v : Value} (hn : narrow (ty0 k) v = v) (hfit : fits (ty0 k) v = true) (hl : k < fs.length) (hdg : decode cc pc = .ok (.putfield index, 3))
    (kk : ∀ (H1 : Heap) (locs1 : List Loc), kW γ A (ws.set q0 (a, .inr (ci, fs.set k v))) s H1 locs1 → W p l e R s m args below meth c H1 locs1 cells slots Q (F0 m (pc + 3) ls rest)) : W p l e R s m args below meth c H locs cells slots Q (F0 m pc ls (v :: .ref a :: rest)) :=
  va_putN hC.1 hC.2.1 hC.2.2.2.2.1 hin ty0 hty hnm hC.2.2.2.1 hC.2.2.2.2.2.1.1 hw.1 hw.2.1 hw.2.2 q0 he hc k hk (va_Nw.use rfl (hC.2.2.2.2.2.1.2.1 _ hg)) (fun _ h => h) hfin (hty k hk) hn hfit hl hdg (fun H1 locs1 h1 h2 h3 => kk H1 locs1 ⟨h1, h2, h3⟩)
theorem k_new (hC : kC γ p s m args c cc nL own A) (hw : kW γ A ws s H locs) {C : String} {T : u_T} {N ci index : Nat} (hin : ∀ w ∈ u_ws C T N, w ∈ kG) (ty0 : Nat → FieldType) (hty : ∀ k, k < N → parseFieldDescriptor (T k).2.2.1 = some (ty0 k)) (hcl : Cond.classLink own index C ∈ kG) (hi : Cond.instantiable C N ∈ kG) (hz : Cond.initialized C ∈ kG) (hc : vwCl[ci]? = some (C, T, N))
    {fs : List Value} (hfs : ∀ j, j < N → defaultValue (ty0 j) = vp_V fs j) (hcells : cells + 1 ≤ R.cells) (hslots : slots + N ≤ R.slots) (hdg : decode cc pc = .ok (.new index, 3))
    (kk : ∀ (q : Nat) (H1 : Heap), kW γ A (ws ++ [(q, .inr (ci, fs))]) s H1 locs → W p l e R s m args below meth c H1 locs (cells + 1) (slots + N) Q (F0 m (pc + 3) ls (.ref q :: rest))) : W p l e R s m args below meth c H locs cells slots Q (F0 m pc ls rest) :=
  va_new hC.1 hC.2.1 hC.2.2.2.2.1 hin ty0 hty hC.2.2.2.1 (hC.2.2.2.2.1 _ hcl) (hC.2.2.2.2.1 _ hi) (hC.2.2.2.2.1 _ hz) hC.2.2.2.2.2.1.1 hw.1 hw.2.1 hw.2.2 hC.2.2.2.2.2.2.1 hc hfs hcells hslots hdg (fun q H1 h1 h2 h3 => kk q H1 ⟨h1, h2, h3⟩)
theorem k_cls {κ : Nat → ClassId} {D : va_G} {cA : ClassId} {ty : FieldType} (hK : va_K D vwCl (kT κ) s) (t0 : Nat) (ht : (kT κ)[t0]? = some (κ t0, ty)) (hK2 : va_K D vwCl (kT κ ++ [(cA, ty)]) s) (hs : ∀ C, ty ≠ .object C) : cA = κ t0 := by
  have h1 := (hK.2 t0 _ ht).2
  have h2 := (hK2.2 6 (cA, ty) rfl).2
  cases ty with
  | object C => exact absurd rfl (hs C)
  | _ => exact Option.some.inj (h2.symm.trans h1)
theorem k_newa (hC : kC γ p s m args c cc nL own A) (hw : kW γ A ws s H locs) {atype : ArrayType} {ty : FieldType} (hty : newarray.typeOf atype = ty) (ha : Cond.arrayClass ty ∈ kG) (t0 : Nat) (ht : (kT γ.2.1)[t0]? = some (γ.2.1 t0, ty)) (hs : ∀ C, ty ≠ .object C)
    {n : Int32} {N' : Nat} {a0 : vp_A} (h0 : ∀ cA : ClassId, vp_cell cA a0 = arrV cA N' (fun _ => defaultValue ty)) (hn : ¬ n < 0) (hN : n.toNatClampNeg = N') (hbytes : N' * componentBytes ty ≤ 536870912) (hcells : cells + 1 ≤ R.cells) (hslots : slots + N' ≤ R.slots) (hdg : decode cc pc = .ok (.newarray atype, 2))
    (kk : ∀ (q : Nat) (H1 : Heap), kW γ A (ws ++ [(q, .inl (γ.2.1 t0, a0))]) s H1 locs → W p l e R s m args below meth c H1 locs (cells + 1) (slots + N') Q (F0 m (pc + 2) ls (.ref q :: rest))) : W p l e R s m args below meth c H locs cells slots Q (F0 m pc ls (.int n :: rest)) :=
  va_newa hC.1 hC.2.1 (by rw [hty]; exact hC.2.2.2.2.1 _ ha) hty hC.2.2.2.2.2.1.1 hw.1 hw.2.1 hw.2.2 hC.2.2.2.2.2.2.1 h0 hn hN hbytes hcells hslots hdg (fun q cA H1 hK2 h1 h2 h3 => by
    have e9 := k_cls hC.2.2.2.2.2.1.1 t0 ht hK2 hs
    subst e9
    exact kk q H1 ⟨h1, h2, h3⟩)
theorem k_iald (hC : kC γ p s m args c cc nL own A) (hw : kW γ A ws s H locs) (q0 : Nat) {a n : Nat} {f : Nat → Int32} (ha : ws[q0]? = some (a, .inl (γ.2.1 0, n, .inl f))) {i : Int32} (hin : vp_in i n) (hdg : decode cc pc = .ok (.iaload, 1))
    (kk : W p l e R s m args below meth c H locs cells slots Q (F0 m (pc + 1) ls (.int (f i.toNatClampNeg) :: rest))) : W p l e R s m args below meth c H locs cells slots Q (F0 m pc ls (.int i :: .ref a :: rest)) :=
  va_iald hC.1 hC.2.1 hC.2.2.2.2.2.1.1 hw.1 q0 0 ha rfl hin hdg kk
theorem k_zald (hC : kC γ p s m args c cc nL own A) (hw : kW γ A ws s H locs) (q0 : Nat) {a n : Nat} {f : Nat → Int32} (ha : ws[q0]? = some (a, .inl (γ.2.1 3, n, .inl f))) {i : Int32} (hin : vp_in i n) (hdg : decode cc pc = .ok (.baload, 1))
    (kk : W p l e R s m args below meth c H locs cells slots Q (F0 m (pc + 1) ls (.int (f i.toNatClampNeg) :: rest))) : W p l e R s m args below meth c H locs cells slots Q (F0 m pc ls (.int i :: .ref a :: rest)) :=
  va_zald hC.1 hC.2.1 hC.2.2.2.2.2.1.1 hw.1 q0 3 ha rfl hin hdg kk
theorem k_bald (hC : kC γ p s m args c cc nL own A) (hw : kW γ A ws s H locs) (q0 : Nat) {a n : Nat} {f : Nat → Int32} (ha : ws[q0]? = some (a, .inl (γ.2.1 2, n, .inl f))) {i : Int32} (hin : vp_in i n) (hdg : decode cc pc = .ok (.baload, 1))
    (kk : W p l e R s m args below meth c H locs cells slots Q (F0 m (pc + 1) ls (.int (f i.toNatClampNeg) :: rest))) : W p l e R s m args below meth c H locs cells slots Q (F0 m pc ls (.int i :: .ref a :: rest)) :=
  va_bald hC.1 hC.2.1 hC.2.2.2.2.2.1.1 hw.1 q0 2 ha rfl hin hdg kk
theorem k_lald (hC : kC γ p s m args c cc nL own A) (hw : kW γ A ws s H locs) (q0 : Nat) {a n : Nat} {f : Nat → Int64} (ha : ws[q0]? = some (a, .inl (γ.2.1 1, n, .inr (.inl f)))) {i : Int32} (hin : vp_in i n) (hdg : decode cc pc = .ok (.laload, 1))
    (kk : W p l e R s m args below meth c H locs cells slots Q (F0 m (pc + 1) ls (.long (f i.toNatClampNeg) :: rest))) : W p l e R s m args below meth c H locs cells slots Q (F0 m pc ls (.int i :: .ref a :: rest)) :=
  va_lald hC.1 hC.2.1 hC.2.2.2.2.2.1.1 hw.1 q0 1 ha rfl hin hdg kk
theorem k_iast (hC : kC γ p s m args c cc nL own A) (hw : kW γ A ws s H locs) (q0 : Nat) {a n : Nat} {f : Nat → Int32} (ha : ws[q0]? = some (a, .inl (γ.2.1 0, n, .inl f))) {i x : Int32} (hin : vp_in i n) (hdg : decode cc pc = .ok (.iastore, 1))
    (kk : ∀ (H1 : Heap) (locs1 : List Loc), kW γ A (ws.set q0 (a, .inl (γ.2.1 0, n, .inl (upd f i.toNatClampNeg x)))) s H1 locs1 → W p l e R s m args below meth c H1 locs1 cells slots Q (F0 m (pc + 1) ls rest)) : W p l e R s m args below meth c H locs cells slots Q (F0 m pc ls (.int x :: .int i :: .ref a :: rest)) :=
  va_iast hC.1 hC.2.1 hC.2.2.2.2.2.1.1 hw.1 hw.2.1 hw.2.2 q0 0 ha rfl hin hdg (fun H1 locs1 h1 h2 h3 => kk H1 locs1 ⟨h1, h2, h3⟩)
theorem k_zast (hC : kC γ p s m args c cc nL own A) (hw : kW γ A ws s H locs) (q0 : Nat) {a n : Nat} {f : Nat → Int32} (ha : ws[q0]? = some (a, .inl (γ.2.1 3, n, .inl f))) {i x : Int32} (hin : vp_in i n) (hdg : decode cc pc = .ok (.bastore, 1))
    (kk : ∀ (H1 : Heap) (locs1 : List Loc), kW γ A (ws.set q0 (a, .inl (γ.2.1 3, n, .inl (upd f i.toNatClampNeg (vp_nar .boolean x))))) s H1 locs1 → W p l e R s m args below meth c H1 locs1 cells slots Q (F0 m (pc + 1) ls rest)) : W p l e R s m args below meth c H locs cells slots Q (F0 m pc ls (.int x :: .int i :: .ref a :: rest)) :=
  va_zast hC.1 hC.2.1 hC.2.2.2.2.2.1.1 hw.1 hw.2.1 hw.2.2 q0 3 ha rfl hin hdg (fun H1 locs1 h1 h2 h3 => kk H1 locs1 ⟨h1, h2, h3⟩)
theorem k_bast (hC : kC γ p s m args c cc nL own A) (hw : kW γ A ws s H locs) (q0 : Nat) {a n : Nat} {f : Nat → Int32} (ha : ws[q0]? = some (a, .inl (γ.2.1 2, n, .inl f))) {i x : Int32} (hin : vp_in i n) (hdg : decode cc pc = .ok (.bastore, 1))
    (kk : ∀ (H1 : Heap) (locs1 : List Loc), kW γ A (ws.set q0 (a, .inl (γ.2.1 2, n, .inl (upd f i.toNatClampNeg (vp_nar .byte x))))) s H1 locs1 → W p l e R s m args below meth c H1 locs1 cells slots Q (F0 m (pc + 1) ls rest)) : W p l e R s m args below meth c H locs cells slots Q (F0 m pc ls (.int x :: .int i :: .ref a :: rest)) :=
  va_bast hC.1 hC.2.1 hC.2.2.2.2.2.1.1 hw.1 hw.2.1 hw.2.2 q0 2 ha rfl hin hdg (fun H1 locs1 h1 h2 h3 => kk H1 locs1 ⟨h1, h2, h3⟩)
theorem k_last (hC : kC γ p s m args c cc nL own A) (hw : kW γ A ws s H locs) (q0 : Nat) {a n : Nat} {f : Nat → Int64} (ha : ws[q0]? = some (a, .inl (γ.2.1 1, n, .inr (.inl f)))) {i : Int32} {x : Int64} (hin : vp_in i n) (hdg : decode cc pc = .ok (.lastore, 1))
    (kk : ∀ (H1 : Heap) (locs1 : List Loc), kW γ A (ws.set q0 (a, .inl (γ.2.1 1, n, .inr (.inl (vp_updL f i.toNatClampNeg x))))) s H1 locs1 → W p l e R s m args below meth c H1 locs1 cells slots Q (F0 m (pc + 1) ls rest)) : W p l e R s m args below meth c H locs cells slots Q (F0 m pc ls (.long x :: .int i :: .ref a :: rest)) :=
  va_last hC.1 hC.2.1 hC.2.2.2.2.2.1.1 hw.1 hw.2.1 hw.2.2 q0 1 ha rfl hin hdg (fun H1 locs1 h1 h2 h3 => kk H1 locs1 ⟨h1, h2, h3⟩)
theorem k_alen (hC : kC γ p s m args c cc nL own A) (hw : kW γ A ws s H locs) (q0 t0 : Nat) {a : Nat} {x : vp_A} (ha : ws[q0]? = some (a, .inl (γ.2.1 t0, x))) {ty : FieldType} (ht : (kT γ.2.1)[t0]? = some (γ.2.1 t0, ty)) {v : Int32} (hv : Int32.ofNat x.1 = v) (hdg : decode cc pc = .ok (.arraylength, 1))
    (kk : W p l e R s m args below meth c H locs cells slots Q (F0 m (pc + 1) ls (.int v :: rest))) : W p l e R s m args below meth c H locs cells slots Q (F0 m pc ls (.ref a :: rest)) :=
  va_alen hC.1 hC.2.1 hC.2.2.2.2.2.1.1 hw.1 q0 t0 ha ht hv hdg kk
theorem k_call {γ : kΓ} {wc wr : va_W} {post : Option Value → va_W → Prop} {a : Array Value} {mc ms : Nat}
    (hr : va_Run p l e R s m args below meth c H locs cells slots mc ms (F0 m pc ls st0) rest (kQ γ (va_A wc H.size) post a) (va_A wc H.size)) (hC : kC γ p s m args c cc nL own A) (hw : kW γ A ws s H locs)
    (isC isR : List Nat) (hcs : isC.map (fun i => ws[i]?) = wc.map some) (hrs : isR.map (fun i => ws[i]?) = wr.map some) (hn : va_nd isR = true) (hdis : ∀ i ∈ isR, i ∉ isC)
    (kk : ∀ (r : Option Value) (w1 : va_W) (H1 : Heap) (locs1 : List Loc), post r w1 → kW γ A (wr ++ w1) s H1 locs1 → W p l e R s m args below meth c H1 locs1 (cells + mc) (slots + ms) Q (F0 m (pc + 3) ls (r.toList ++ rest))) : W p l e R s m args below meth c H locs cells slots Q (F0 m pc ls st0) := by
  intro T hT X
  obtain ⟨v, st₀, t, T', L, h0, X', hL, e1, e2, ⟨⟨r, w1, hv, hp, hP1, hD1⟩, hz, hk⟩, st⟩ := hr T hT X
  cases hv
  rw [h0] at hz hk
  have hFc := va_free (wc := wc) hw.2.1 hw.2.2 hC.2.2.2.2.2.2.1 isC hcs
  have hk1 : ∀ q : Nat, q < H.size → ¬ va_A wc H.size q → T'.heap[q]? = H[q]? := fun q h1 h2 => by rw [e1]; exact hk q h1 h2
  obtain ⟨hP, hD⟩ := va_join (wr := wr) (w1 := w1) hw.1 hw.2.1 isC isR hcs hrs hn hdis hk1 hFc (by rw [e1]; exact hP1) hD1
  obtain ⟨t2, a1, b1⟩ := kk v w1 T'.heap (locs ++ L) hp ⟨hP, hD, Nat.le_trans hw.2.2.1 (by rw [e1]; exact hz), fun q h1 h2 => by
      rw [e1, hk q (Nat.lt_of_lt_of_le h1 hw.2.2.1) (fun z => h2 (hFc q z))]; exact hw.2.2.2.1 q h1 h2, fun q hq => by
      rcases List.mem_append.mp hq with h | h
      · exact hw.2.2.2.2 q h
      · exact hFc _ (hL q h)⟩ T' rfl X'
  exact ⟨t2, st t2 a1, b1⟩
/-- the start of a callee, out of the caller's world -/
theorem k_pre {γ : kΓ} {wc : va_W} {av : List Value} (hC : kC γ p s m args c cc nL own A) (hw : kW γ A ws s H locs) (isC : List Nat) (hnc : va_nd isC = true) (hcs : isC.map (fun i => ws[i]?) = wc.map some) :
    FrameBlind (kP γ av wc H.size) ∧ ∀ U : State, U.heap = H → s.WarmedH U.vm → kP γ av wc H.size av.toArray U := by
  refine ⟨fun a U g mk q => ?_, fun U hU hW => ?_⟩
  · obtain ⟨q0, q1, qP, qD, qb, qE⟩ := q
    exact ⟨q0, q1, qP, qD, qb, kE.calling qE⟩
  · have hw' := kW.sub hw isC hnc hcs
    have hE : kE γ U U.heap := by
      rw [hU]
      exact (kE.kept hC.2.2.2.2.2.1 (fun a h1 h2 => hw.2.2.2.1 a h1 (fun z => h2 (hC.2.2.2.2.2.2.2 a z)))).moved hW
    have hb : γ.2.2.1 ≤ H.size := Nat.le_trans (hC.2.2.2.2.2.2.2 _ (hC.2.2.2.2.2.2.1 _ (Nat.le_refl _))) hw.2.2.1
    exact ⟨rfl, by rw [hU], by rw [hU]; exact hw'.1, hw'.2.1.weaken (fun k q _ h => hC.2.2.2.2.2.2.2 _ h), hb, hE⟩
theorem k_words {ws0 : List Cond} {y : MethodName} {bytes : ByteArray} {maxL : Nat} {ret : Option FieldType} (h0 : ∀ w ∈ ws0, w ∈ kG) (hcode : Cond.code y bytes maxL ret ∈ kG) : GoodIn kG (ws0 ++ (.code y bytes maxL ret :: kG)) :=
  kG_in (fun _ h => h) (fun w h => (List.mem_append.mp h).elim (h0 w) (fun h => (List.mem_cons.mp h).elim (fun e => e ▸ hcode) id))
theorem k_words0 {y : MethodName} {bytes : ByteArray} {maxL : Nat} {ret : Option FieldType} (hcode : Cond.code y bytes maxL ret ∈ kG) : GoodIn kG (.code y bytes maxL ret :: kG) :=
  kG_in (fun _ h => h) (fun w h => (List.mem_cons.mp h).elim (fun e => e ▸ hcode) id)
theorem k_mem4 {P : Cond → Prop} {a b c d : Cond} (ha : P a) (hb : P b) (hc : P c) (hd : P d) : ∀ w ∈ [a, b, c, d], P w := by
  intro w h; simp at h; rcases h with rfl | rfl | rfl | rfl <;> assumption
theorem k_mem3 {P : Cond → Prop} {a b c : Cond} (ha : P a) (hb : P b) (hc : P c) : ∀ w ∈ [a, b, c], P w := by
  intro w h; simp at h; rcases h with rfl | rfl | rfl <;> assumption
variable {y : MethodName} {bytes : ByteArray} {maxL n index : Nat} {ret : Option FieldType} {rm : Room} {wc wr : va_W} {post : Option Value → va_W → Prop} {As : List Value} {b : Nat}
/-- invokevirtual -/
theorem k_V (n : Nat) (hl : Cond.methodLink own index y ∈ kG) (hi : Cond.instanceMethod y ∈ kG) (hse : Cond.selects y.cls y y ∈ kG) (hz : Cond.initialized y.cls ∈ kG) (hcode : Cond.code y bytes maxL ret ∈ kG)
    (hd : y.cls ≠ "java/lang/invoke/MethodHandle" ∧ y.cls ≠ "java/lang/invoke/VarHandle" ∧ (parseMethodDescriptor y.desc).map (fun d => d.parameters.length) = some n)
    (hC : kC γ p s m args c cc nL own A) (hw : kW γ A ws s H locs) (hM : kM γ l y bytes maxL ret rm (.ref b :: As) wc post) (hR : rm.frames + 1 ≤ R.frames ∧ 8 + (maxL + 11) + rm.locals ≤ R.locals) (hf : cells + rm.cells ≤ R.cells ∧ slots + rm.slots ≤ R.slots)
    (hml : ls.size = nL) (hn : As.length = n) (qb : Nat) {ci : Nat} {T : u_T} {N : Nat} {fs : List Value} (hb : ws[qb]? = some (b, .inr (ci, fs))) (hc : vwCl[ci]? = some (y.cls, T, N)) (hstack : st0 = As.reverse ++ .ref b :: rest) (hW : (rest.map fun v => v.category).sum ≤ 8)
    (isC isR : List Nat) (hnc : va_nd isC = true) (hcs : isC.map (fun i => ws[i]?) = wc.map some) (hrs : isR.map (fun i => ws[i]?) = wr.map some) (hnr : va_nd isR = true) (hdis : ∀ i ∈ isR, i ∉ isC) (hdg : decode cc pc = .ok (.invokevirtual index, 3))
    (kk : ∀ (r : Option Value) (w1 : va_W) (H1 : Heap) (locs1 : List Loc), post r w1 → kW γ A (wr ++ w1) s H1 locs1 → W p l e R s m args below meth c H1 locs1 (cells + rm.cells) (slots + rm.slots) Q (F0 m (pc + 3) ls (r.toList ++ rest))) : W p l e R s m args below meth c H locs cells slots Q (F0 m pc ls st0) :=
  k_call (va_runV (As := As) (rest := rest) (Ts := kG) ⟨hC.1, hC.2.1, hC.2.2.1, hC.2.2.2.1, hC.2.2.2.2.1⟩ (hM H.size) (cwV n hC.2.2.2.2.1 (k_words (ws0 := [.methodLink own index y, .instanceMethod y, .selects y.cls y y, .initialized y.cls]) (k_mem4 hl hi hse hz) hcode) rfl rfl rfl ⟨rfl, hd⟩ hR)
    ⟨(k_pre hC hw isC hnc hcs).1, va_recv hC.2.2.2.2.2.1.1 hw.1 hc hb, (k_pre hC hw isC hnc hcs).2⟩ rfl hn hml hstack (lv_room hW) hdg hf) hC hw isC isR hcs hrs hnr hdis kk
/-- invokestatic -/
theorem k_S (n : Nat) (hl : Cond.methodLink own index y ∈ kG) (hi : Cond.static y ∈ kG) (hz : Cond.initialized y.cls ∈ kG) (hcode : Cond.code y bytes maxL ret ∈ kG)
    (hd : y.cls ≠ "java/lang/invoke/MethodHandle" ∧ y.cls ≠ "java/lang/invoke/VarHandle" ∧ (parseMethodDescriptor y.desc).map (fun d => d.parameters.length) = some n)
    (hC : kC γ p s m args c cc nL own A) (hw : kW γ A ws s H locs) (hM : kM γ l y bytes maxL ret rm As wc post) (hR : rm.frames + 1 ≤ R.frames ∧ 8 + (maxL + 11) + rm.locals ≤ R.locals) (hf : cells + rm.cells ≤ R.cells ∧ slots + rm.slots ≤ R.slots)
    (hml : ls.size = nL) (hn : As.length = n) (hstack : st0 = As.reverse ++ rest) (hW : (rest.map fun v => v.category).sum ≤ 8)
    (isC isR : List Nat) (hnc : va_nd isC = true) (hcs : isC.map (fun i => ws[i]?) = wc.map some) (hrs : isR.map (fun i => ws[i]?) = wr.map some) (hnr : va_nd isR = true) (hdis : ∀ i ∈ isR, i ∉ isC) (hdg : decode cc pc = .ok (.invokestatic index, 3))
    (kk : ∀ (r : Option Value) (w1 : va_W) (H1 : Heap) (locs1 : List Loc), post r w1 → kW γ A (wr ++ w1) s H1 locs1 → W p l e R s m args below meth c H1 locs1 (cells + rm.cells) (slots + rm.slots) Q (F0 m (pc + 3) ls (r.toList ++ rest))) : W p l e R s m args below meth c H locs cells slots Q (F0 m pc ls st0) :=
  k_call (va_runS (As := As) (rest := rest) (Ts := kG) ⟨hC.1, hC.2.1, hC.2.2.1, hC.2.2.2.1, hC.2.2.2.2.1⟩ (hM H.size) (va_cwS n hC.2.2.2.2.1 (k_words (ws0 := [.methodLink own index y, .static y, .initialized y.cls]) (k_mem3 hl hi hz) hcode) rfl rfl rfl hd hR)
    (k_pre hC hw isC hnc hcs) rfl hn hml hstack (lv_room hW) hdg hf) hC hw isC isR hcs hrs hnr hdis kk
/-- invokespecial of a constructor -/
theorem k_I (n : Nat) (hl : Cond.methodLink own index y ∈ kG) (hi : Cond.instanceMethod y ∈ kG) (hz : Cond.initialized y.cls ∈ kG) (hcode : Cond.code y bytes maxL none ∈ kG) (hy1 : y.name = "<init>")
    (hd : y.cls ≠ "java/lang/invoke/MethodHandle" ∧ y.cls ≠ "java/lang/invoke/VarHandle" ∧ (parseMethodDescriptor y.desc).map (fun d => d.parameters.length) = some n)
    (hC : kC γ p s m args c cc nL own A) (hw : kW γ A ws s H locs) (hM : kM γ l y bytes maxL none rm (.ref b :: As) wc post) (hR : rm.frames + 1 ≤ R.frames ∧ 8 + (maxL + 11) + rm.locals ≤ R.locals) (hf : cells + rm.cells ≤ R.cells ∧ slots + rm.slots ≤ R.slots)
    (hml : ls.size = nL) (hn : As.length = n) (hstack : st0 = As.reverse ++ .ref b :: rest) (hW : (rest.map fun v => v.category).sum ≤ 8)
    (isC isR : List Nat) (hnc : va_nd isC = true) (hcs : isC.map (fun i => ws[i]?) = wc.map some) (hrs : isR.map (fun i => ws[i]?) = wr.map some) (hnr : va_nd isR = true) (hdis : ∀ i ∈ isR, i ∉ isC) (hdg : decode cc pc = .ok (.invokespecial index, 3))
    (kk : ∀ (r : Option Value) (w1 : va_W) (H1 : Heap) (locs1 : List Loc), post r w1 → kW γ A (wr ++ w1) s H1 locs1 → W p l e R s m args below meth c H1 locs1 (cells + rm.cells) (slots + rm.slots) Q (F0 m (pc + 3) ls (r.toList ++ rest))) : W p l e R s m args below meth c H locs cells slots Q (F0 m pc ls st0) :=
  k_call (va_runI (As := As) (rest := rest) (Ts := kG) ⟨hC.1, hC.2.1, hC.2.2.1, hC.2.2.2.1, hC.2.2.2.2.1⟩ (hM H.size) (cwI n hC.2.2.2.2.1 (k_words0 hcode) rfl rfl rfl (hC.2.2.2.2.1 _ hz) (hC.2.2.2.2.1 _ hl) (hC.2.2.2.2.1 _ hi) hy1 hd hR)
    (k_pre hC hw isC hnc hcs) rfl hn hml hstack (lv_room hW) hdg hf) hC hw isC isR hcs hrs hnr hdis kk
/-- the same of a nest mate -/
theorem k_VN {host : String} (n : Nat) (hl : Cond.methodLinkNest own index y host ∈ kN) (hi : Cond.instanceMethod y ∈ kG) (hse : Cond.selects y.cls y y ∈ kG) (hz : Cond.initialized y.cls ∈ kG) (hcode : Cond.code y bytes maxL ret ∈ kG)
    (hd : y.cls ≠ "java/lang/invoke/MethodHandle" ∧ y.cls ≠ "java/lang/invoke/VarHandle" ∧ (parseMethodDescriptor y.desc).map (fun d => d.parameters.length) = some n)
    (hC : kC γ p s m args c cc nL own A) (hw : kW γ A ws s H locs) (hM : kM γ l y bytes maxL ret rm (.ref b :: As) wc post) (hR : rm.frames + 1 ≤ R.frames ∧ 8 + (maxL + 11) + rm.locals ≤ R.locals) (hf : cells + rm.cells ≤ R.cells ∧ slots + rm.slots ≤ R.slots)
    (hml : ls.size = nL) (hn : As.length = n) (qb : Nat) {ci : Nat} {T : u_T} {N : Nat} {fs : List Value} (hb : ws[qb]? = some (b, .inr (ci, fs))) (hc : vwCl[ci]? = some (y.cls, T, N)) (hstack : st0 = As.reverse ++ .ref b :: rest) (hW : (rest.map fun v => v.category).sum ≤ 8)
    (isC isR : List Nat) (hnc : va_nd isC = true) (hcs : isC.map (fun i => ws[i]?) = wc.map some) (hrs : isR.map (fun i => ws[i]?) = wr.map some) (hnr : va_nd isR = true) (hdis : ∀ i ∈ isR, i ∉ isC) (hdg : decode cc pc = .ok (.invokevirtual index, 3))
    (kk : ∀ (r : Option Value) (w1 : va_W) (H1 : Heap) (locs1 : List Loc), post r w1 → kW γ A (wr ++ w1) s H1 locs1 → W p l e R s m args below meth c H1 locs1 (cells + rm.cells) (slots + rm.slots) Q (F0 m (pc + 3) ls (r.toList ++ rest))) : W p l e R s m args below meth c H locs cells slots Q (F0 m pc ls st0) :=
  k_call (va_runVN (As := As) (rest := rest) (Ts := kG) ⟨hC.1, hC.2.1, hC.2.2.1, hC.2.2.2.1, hC.2.2.2.2.1⟩ (hM H.size) ⟨va_cnB n hC.2.2.2.2.1 (k_words0 hcode) rfl rfl rfl (hC.2.2.2.2.2.1.2.1 _ hl) (hC.2.2.2.2.1 _ hz) hd hR, hC.2.2.2.2.1 _ hi, hC.2.2.2.2.1 _ hse⟩
    ⟨(k_pre hC hw isC hnc hcs).1, va_recv hC.2.2.2.2.2.1.1 hw.1 hc hb, (k_pre hC hw isC hnc hcs).2⟩ rfl hn hml hstack (lv_room hW) hdg hf) hC hw isC isR hcs hrs hnr hdis kk
theorem k_SN {host : String} (n : Nat) (hl : Cond.methodLinkNest own index y host ∈ kN) (hi : Cond.static y ∈ kG) (hz : Cond.initialized y.cls ∈ kG) (hcode : Cond.code y bytes maxL ret ∈ kG)
    (hd : y.cls ≠ "java/lang/invoke/MethodHandle" ∧ y.cls ≠ "java/lang/invoke/VarHandle" ∧ (parseMethodDescriptor y.desc).map (fun d => d.parameters.length) = some n)
    (hC : kC γ p s m args c cc nL own A) (hw : kW γ A ws s H locs) (hM : kM γ l y bytes maxL ret rm As wc post) (hR : rm.frames + 1 ≤ R.frames ∧ 8 + (maxL + 11) + rm.locals ≤ R.locals) (hf : cells + rm.cells ≤ R.cells ∧ slots + rm.slots ≤ R.slots)
    (hml : ls.size = nL) (hn : As.length = n) (hstack : st0 = As.reverse ++ rest) (hW : (rest.map fun v => v.category).sum ≤ 8)
    (isC isR : List Nat) (hnc : va_nd isC = true) (hcs : isC.map (fun i => ws[i]?) = wc.map some) (hrs : isR.map (fun i => ws[i]?) = wr.map some) (hnr : va_nd isR = true) (hdis : ∀ i ∈ isR, i ∉ isC) (hdg : decode cc pc = .ok (.invokestatic index, 3))
    (kk : ∀ (r : Option Value) (w1 : va_W) (H1 : Heap) (locs1 : List Loc), post r w1 → kW γ A (wr ++ w1) s H1 locs1 → W p l e R s m args below meth c H1 locs1 (cells + rm.cells) (slots + rm.slots) Q (F0 m (pc + 3) ls (r.toList ++ rest))) : W p l e R s m args below meth c H locs cells slots Q (F0 m pc ls st0) :=
  k_call (va_runSN (As := As) (rest := rest) (Ts := kG) ⟨hC.1, hC.2.1, hC.2.2.1, hC.2.2.2.1, hC.2.2.2.2.1⟩ (hM H.size) ⟨va_cnB n hC.2.2.2.2.1 (k_words0 hcode) rfl rfl rfl (hC.2.2.2.2.2.1.2.1 _ hl) (hC.2.2.2.2.1 _ hz) hd hR, hC.2.2.2.2.1 _ hi, trivial⟩
    (k_pre hC hw isC hnc hcs) rfl hn hml hstack (lv_room hW) hdg hf) hC hw isC isR hcs hrs hnr hdis kk
theorem k_IN {host : String} (n : Nat) (hl : Cond.methodLinkNest own index y host ∈ kN) (hi : Cond.instanceMethod y ∈ kG) (hz : Cond.initialized y.cls ∈ kG) (hcode : Cond.code y bytes maxL none ∈ kG) (hy1 : y.name = "<init>")
    (hd : y.cls ≠ "java/lang/invoke/MethodHandle" ∧ y.cls ≠ "java/lang/invoke/VarHandle" ∧ (parseMethodDescriptor y.desc).map (fun d => d.parameters.length) = some n)
    (hC : kC γ p s m args c cc nL own A) (hw : kW γ A ws s H locs) (hM : kM γ l y bytes maxL none rm (.ref b :: As) wc post) (hR : rm.frames + 1 ≤ R.frames ∧ 8 + (maxL + 11) + rm.locals ≤ R.locals) (hf : cells + rm.cells ≤ R.cells ∧ slots + rm.slots ≤ R.slots)
    (hml : ls.size = nL) (hn : As.length = n) (hstack : st0 = As.reverse ++ .ref b :: rest) (hW : (rest.map fun v => v.category).sum ≤ 8)
    (isC isR : List Nat) (hnc : va_nd isC = true) (hcs : isC.map (fun i => ws[i]?) = wc.map some) (hrs : isR.map (fun i => ws[i]?) = wr.map some) (hnr : va_nd isR = true) (hdis : ∀ i ∈ isR, i ∉ isC) (hdg : decode cc pc = .ok (.invokespecial index, 3))
    (kk : ∀ (r : Option Value) (w1 : va_W) (H1 : Heap) (locs1 : List Loc), post r w1 → kW γ A (wr ++ w1) s H1 locs1 → W p l e R s m args below meth c H1 locs1 (cells + rm.cells) (slots + rm.slots) Q (F0 m (pc + 3) ls (r.toList ++ rest))) : W p l e R s m args below meth c H locs cells slots Q (F0 m pc ls st0) :=
  k_call (va_runIN (As := As) (rest := rest) (Ts := kG) ⟨hC.1, hC.2.1, hC.2.2.1, hC.2.2.2.1, hC.2.2.2.2.1⟩ (hM H.size) ⟨va_cnB n hC.2.2.2.2.1 (k_words0 hcode) rfl rfl rfl (hC.2.2.2.2.2.1.2.1 _ hl) (hC.2.2.2.2.1 _ hz) hd hR, hy1, hC.2.2.2.2.1 _ hi⟩
    (k_pre hC hw isC hnc hcs) rfl hn hml hstack (lv_room hW) hdg hf) hC hw isC isR hcs hrs hnr hdis kk
/-- returns -/
theorem k_end {mc ms : Nat} {w1 : va_W} (hw : kW γ A ws s H locs) (is : List Nat) (hn : va_nd is = true) (hs : is.map (fun i => ws[i]?) = w1.map some) {r : Option Value} (hp : post r w1) (t : State) (ht : t.heap = H) : kQ γ A post args s (.returned r) t := by
  have hw' := kW.sub hw is hn hs
  exact ⟨⟨r, w1, rfl, hp, by rw [ht]; exact hw'.1, hw'.2.1⟩, hw.2.2.F ht⟩
theorem k_vret {mc ms : Nat} {w1 : va_W} (hC : kC γ p s m args c cc nL own A) (hr : meth.sig.returnType = none) (hlocks : meth.locks = false) (hw : kW γ A ws s H locs) (is : List Nat) (hn : va_nd is = true) (hs : is.map (fun i => ws[i]?) = w1.map some) (hp : post none w1) (hc : cells ≤ mc) (hsl : slots ≤ ms) (hdg : decode cc pc = .ok (.return_, 1)) :
    W p l e R s m args below meth c H locs cells slots (MQ below (kQ γ A post) args s mc ms A) (F0 m pc ls []) :=
  W.widen hc hsl (W.vret hC.1 hC.2.1 hr (fun t ht hW => k_end (mc := 0) (ms := 0) hw is hn hs hp t ht) hw.2.2.2.2 hdg hlocks)
theorem k_iret {mc ms : Nat} {w1 : va_W} {v : Int32} (hC : kC γ p s m args c cc nL own A) (hr : meth.sig.returnType = some .int) (hlocks : meth.locks = false) (hw : kW γ A ws s H locs) (is : List Nat) (hn : va_nd is = true) (hs : is.map (fun i => ws[i]?) = w1.map some) (hp : post (some (.int v)) w1) (hc : cells ≤ mc) (hsl : slots ≤ ms) (hdg : decode cc pc = .ok (.ireturn, 1)) :
    W p l e R s m args below meth c H locs cells slots (MQ below (kQ γ A post) args s mc ms A) (F0 m pc ls [.int v]) :=
  W.widen hc hsl (W.iret hC.1 hC.2.1 hr (fun t ht hW => k_end (mc := 0) (ms := 0) hw is hn hs hp t ht) hw.2.2.2.2 hdg hlocks)
end KW

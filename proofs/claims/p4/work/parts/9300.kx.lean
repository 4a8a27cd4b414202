/-! methods that throw NoSuchElementException -/
def kNS : String := "java/util/NoSuchElementException"
abbrev kNames : List String := ["java/lang/RuntimeException", "java/lang/Exception"]
def kX (A : Nat → Prop) : String → State → State → Prop := fun E st t => E = "java/util/NoSuchElementException" ∧ va_F A st t
def kMX (γ : kΓ) (l : Launch) (y : MethodName) (cc : ByteArray) (maxL : Nat) (ret : Option FieldType) (rm : Room) (av : List Value) (wc : va_W) : Prop :=
  ∀ sz : Nat, vx_Met l y (.code y cc maxL ret :: kG) rm (kP γ av wc sz) (fun _ _ _ _ => False) (kX (va_A wc sz)) rm.cells rm.slots (va_A wc sz)
theorem k_ofWX {γ : kΓ} {l : Launch} {y : MethodName} {cc : ByteArray} {maxL : Nat} {ret : Option FieldType} {rm : Room} {av : List Value} {wc : va_W}
    (hy : plainName y.cls = true) (hn : (lg_sl av).length ≤ maxL)
    (body : ∀ (p : Program) (e : Env) (s : State) (m : MethodId) (below : List Frame) (meth : Method) (c : Code) (A : Nat → Prop) (ls : Array Slot), kC γ p s m av.toArray c cc maxL y.cls A → meth.locks = false → (∀ x ∈ c.exceptionTable.toList, False) →
      kW γ A wc s s.heap [] → lv_has ls maxL (lv_args 0 av) →
      W p l e rm s m av.toArray below meth c s.heap [] 0 0 (vx_MQ below (fun _ _ _ _ => False) (kX A) av.toArray s rm.cells rm.slots A) (F0 m 0 ls [])) : kMX γ l y cc maxL ret rm av wc := by
  intro sz
  refine vx_ofW (cc := cc) (maxL := maxL) (ret := ret) hy rfl ?_
  intro p e s m args below meth c s₁ B hml hT hv
  obtain ⟨rfl, hsz, hP, hD0, hb0, hE⟩ := hv
  have hts := atoms_spec (ws := .code y cc maxL ret :: kG) B.pre
  subst hsz
  rw [lg_entry_eq]
  exact body p e s m below meth c (va_A wc s.heap.size) _ ⟨B.exec, B.bytes, hml, findClass_of_methodNamed B.named, fun w hw => hts w (List.mem_cons_of_mem _ hw), hE, fun q h => Or.inr h, fun q h => by
      rcases h with ⟨k, e9, h⟩ | h
      · exact hD0.2 k _ h
      · exact Nat.le_trans hb0 h⟩ B.notSynchronized hT ⟨hP, hD0.self, va_S.rf⟩ (lv_entry av hn)
theorem kN_use {w : Cond} (hw : w ∈ kN) {s : State} {args : Array Value} (h : va_Nw w s) : w.before args s = true := by
  have h1 := (List.mem_filter.mp hw).2
  cases w <;> first | exact va_Nw.use rfl h | (rename_i ty; cases ty <;> first | exact va_AO.use h | (exact absurd h1 (by simp [k_nest]))) | (exact absurd h1 (by simp [k_nest]))
theorem kx_decl {x : MethodName} {b : ByteArray} {n : Nat} {r9 : Option FieldType} {s : State} {args : Array Value} (hi : (Cond.instanceMethod x).before args s = true) (hc : (Cond.code x b n r9).before args s = true) : (Cond.declares x).before args s = true := by
  obtain ⟨r0, r, hn, hrm, hst, hsig⟩ := va_Decl.of hi hc
  simp [Cond.before, Cond.holds, Cond.value, hn, hrm, hst, hsig]
def kx_isCode (x : MethodName) : Cond → Bool
  | .code y _ _ _ => decide (y = x)
  | _ => false
def kx_ok : Cond → Bool
  | .declares x => decide (Cond.instanceMethod x ∈ lw_tbl) && lw_tbl.any (kx_isCode x)
  | w => decide (w ∈ lw_tbl) && (goodWord w || k_nest w)
theorem kx_all : (vx_at0 RX11 227 "java/util/NoSuchElementException" kNames).all kx_ok = true := by decide +kernel
theorem kx_hold {γ : kΓ} {s : State} {args : Array Value} (h1 : ∀ w ∈ kG, w.before args s = true) (h2 : kE γ s s.heap) : ∀ w ∈ vx_at0 RX11 227 "java/util/NoSuchElementException" kNames, w.before args s = true := by
  intro w hw
  have h := List.all_eq_true.mp kx_all w hw
  have other : ∀ w : Cond, (decide (w ∈ lw_tbl) && (goodWord w || k_nest w)) = true → w.before args s = true := by
    intro w h
    simp only [Bool.and_eq_true, decide_eq_true_eq, Bool.or_eq_true] at h
    obtain ⟨q1, q2 | q2⟩ := h
    · exact h1 w (kG_mk q1 q2)
    · exact kN_use (kN_mk q1 q2) (h2.2.1 w (kN_mk q1 q2))
  cases w with
  | declares x =>
    simp only [kx_ok, Bool.and_eq_true, decide_eq_true_eq, List.any_eq_true] at h
    obtain ⟨q1, w9, q2, q3⟩ := h
    cases w9 with
    | code y b n r9 =>
      simp only [kx_isCode, decide_eq_true_eq] at q3
      subst q3
      exact kx_decl (h1 _ (kG_mk q1 rfl)) (h1 _ (kG_mk q2 rfl))
    | _ => exact absurd q3 (by simp [kx_isCode])
  | _ => exact other _ h
theorem kx_good : ∀ w ∈ Cond.classLink RX11 225 "java/util/NoSuchElementException" :: Cond.initialized "java/util/NoSuchElementException" :: vx_at0 RX11 227 "java/util/NoSuchElementException" kNames, vx_ot w = true := by decide +kernel
theorem kx_cl : Cond.classLink RX11 225 "java/util/NoSuchElementException" ∈ kG := kG_mk (by decide +kernel) (by decide +kernel)
theorem kx_in : Cond.initialized "java/util/NoSuchElementException" ∈ kG := kG_mk (by decide +kernel) (by decide +kernel)
section KX
variable {γ : kΓ} {p : Program} {l : Launch} {e : Env} {R : Room} {s : State} {m : MethodId} {args : Array Value} {below : List Frame} {meth : Method} {c : Code} {H : Heap} {locs : List Loc} {cells slots : Nat} {Q : State → Prop}
variable {cc : ByteArray} {nL pc : Nat} {own : String} {A : Nat → Prop} {ws : va_W} {ls : Array Slot} {rest st0 : List Value}
theorem k_throw (hC : kC γ p s m args c cc nL RX11 A) (hl9 : l.stackTraces = false) (hw : kW γ A ws s H locs) (hml : ls.size = nL) (hT : ∀ x ∈ c.exceptionTable.toList, False) (hlocks : meth.locks = false) {mc ms : Nat}
    (d0 : decode cc pc = .ok (.new 225, 3)) (d3 : decode cc (pc + 3) = .ok (.dup, 1)) (d4 : decode cc (pc + 4) = .ok (.invokespecial 227, 3)) (d7 : decode cc (pc + 7) = .ok (.athrow, 1))
    (h1 : 5 < R.frames) (h2 : (rest.map fun v => v.category).sum + 81 ≤ R.locals) (h3 : cells + 1 ≤ R.cells) (h4 : slots + 6 ≤ R.slots) (h5 : cells + 1 ≤ mc) (h6 : slots + 6 ≤ ms) :
    W p l e R s m args below meth c H locs cells slots (vx_MQ below (fun _ _ _ _ => False) (kX A) args s mc ms A) (F0 m pc ls rest) := by
  refine vx_throw0 (names := kNames) (A := A) hC.1 hC.2.1 hl9 hC.2.2.2.1 (by decide) (by decide) (hC.2.2.2.2.1 _ kx_cl) (hC.2.2.2.2.1 _ kx_in) ?_ kx_good
    (vx_Zq.narrow hC.2.2.2.2.2.1.2.2.2.1 (fun q h => hC.2.2.2.2.2.2.2 q h)) (vx_Zq.narrow hC.2.2.2.2.2.1.2.2.2.2.1 (fun q h => hC.2.2.2.2.2.2.2 q h)) hw.2.2 (hml.trans hC.2.2.1.symm) d0 d3 d4 d7 (fun x hx => (hT x hx).elim) h1 h2 h3 h4 hlocks ?_ hw.2.2.2.2 h5 h6
  · exact kx_hold hC.2.2.2.2.1 hC.2.2.2.2.2.1
  · intro t _ hz hk
    exact ⟨rfl, Nat.le_trans hw.2.2.1 hz, fun q h1 h2 => (hk q (Nat.lt_of_lt_of_le h1 hw.2.2.1)).trans (hw.2.2.2.1 q h1 h2)⟩
variable {y : MethodName} {bytes : ByteArray} {maxL n index : Nat} {ret : Option FieldType} {rm : Room} {wc wr : va_W} {As : List Value} {b : Nat}
/-- invokevirtual of a method that throws, caught by the first row of the table -/
theorem k_VX (n : Nat) (hl : Cond.methodLink own index y ∈ kG) (hi : Cond.instanceMethod y ∈ kG) (hse : Cond.selects y.cls y y ∈ kG) (hz : Cond.initialized y.cls ∈ kG) (hcode : Cond.code y bytes maxL ret ∈ kG)
    (hd : y.cls ≠ "java/lang/invoke/MethodHandle" ∧ y.cls ≠ "java/lang/invoke/VarHandle" ∧ (parseMethodDescriptor y.desc).map (fun d => d.parameters.length) = some n)
    (hC : kC γ p s m args c cc nL own A) (hw : kW γ A ws s H locs) (hM : kMX γ l y bytes maxL ret rm (.ref b :: As) wc) (hR : rm.frames + 1 ≤ R.frames ∧ 8 + (maxL + 11) + rm.locals ≤ R.locals) (hf : cells + rm.cells ≤ R.cells ∧ slots + rm.slots ≤ R.slots)
    (hml : ls.size = nL) (hn : As.length = n) (qb : Nat) {ci : Nat} {T : u_T} {N : Nat} {fs : List Value} (hb : ws[qb]? = some (b, .inr (ci, fs))) (hc : vwCl[ci]? = some (y.cls, T, N)) (hstack : st0 = As.reverse ++ .ref b :: rest) (hW : (rest.map fun v => v.category).sum ≤ 8)
    (isC isR : List Nat) (hnc : va_nd isC = true) (hcs : isC.map (fun i => ws[i]?) = wc.map some) (hrs : isR.map (fun i => ws[i]?) = wr.map some) (hnr : va_nd isR = true) (hdis : ∀ i ∈ isR, i ∉ isC) (hdg : decode cc pc = .ok (.invokevirtual index, 3))
    (x : ExceptionTableEntry) (suf : List ExceptionTableEntry) (hsplit : c.exceptionTable.toList = x :: suf) (hx : covers x pc = true) (h0 : x.catchType ≠ 0)
    (hlink : Cond.classLink own x.catchType "java/util/NoSuchElementException" ∈ kG) (hcast : Cond.castable "java/util/NoSuchElementException" "java/util/NoSuchElementException" ∈ kN)
    (kk : ∀ (q9 : Nat) (H1 : Heap) (locs1 : List Loc), kW γ A wr s H1 locs1 → W p l e R s m args below meth c H1 locs1 (cells + rm.cells) (slots + rm.slots) Q (F0 m x.handlerPc ls [.ref q9])) : W p l e R s m args below meth c H locs cells slots Q (F0 m pc ls st0) := by
  have hr := vx_runV (l := l) (R := R) (e := e) (below := below) (meth := meth) (locs := locs) (cells := cells) (slots := slots) (g := F0 m pc ls st0) (As := As) (rest := rest) (Ts := kG) ⟨hC.1, hC.2.1, hC.2.2.1, hC.2.2.2.1, hC.2.2.2.2.1⟩ (hM H.size) (cwV n hC.2.2.2.2.1 (k_words (ws0 := [.methodLink own index y, .instanceMethod y, .selects y.cls y y, .initialized y.cls]) (k_mem4 hl hi hse hz) hcode) rfl rfl rfl ⟨rfl, hd⟩ hR)
    ⟨(k_pre hC hw isC hnc hcs).1, va_recv hC.2.2.2.2.2.1.1 hw.1 hc hb, (k_pre hC hw isC hnc hcs).2⟩ rfl hn hml hstack (lv_room hW) hdg hf
  intro T9 hT9 X
  rcases hr T9 hT9 X with ⟨v, st₀, t, T', L, h0', X', hL, e1, e2, hfalse, st⟩ | ⟨q, st₀, t, T', L, E, ce, h0', X', hL, e1, e2, ⟨hE, hz9, hk⟩, hce, hcv, hcl, st⟩
  · exact hfalse.elim
  subst hE
  rw [h0'] at hz9 hk
  have hFc := va_free (wc := wc) hw.2.1 hw.2.2 hC.2.2.2.2.2.2.1 isC hcs
  have hk1 : ∀ q : Nat, q < H.size → ¬ va_A wc H.size q → T'.heap[q]? = H[q]? := fun q h1 h2 => by rw [e1]; exact hk q h1 h2
  obtain ⟨hP, hD⟩ := va_join (wr := wr) (w1 := []) hw.1 hw.2.1 isC isR hcs hrs hnr hdis hk1 hFc (fun k q h => by simp at h) ⟨fun i j p q h => by simp at h, fun k q h => by simp at h⟩
  rw [List.append_nil] at hP hD
  have hW1 : kW γ A wr s T'.heap (locs ++ L) := ⟨hP, hD, Nat.le_trans hw.2.2.1 (by rw [e1]; exact hz9), fun q h1 h2 => by
      rw [e1, hk q (Nat.lt_of_lt_of_le h1 hw.2.2.1) (fun z => h2 (hFc q z))]; exact hw.2.2.2.1 q h1 h2, fun q hq => by
      rcases List.mem_append.mp hq with h | h
      · exact hw.2.2.2.2 q h
      · exact hFc _ (hL q h)⟩
  have hcat := kx_catch (p := p) (l := l) (e := e) (R := R) (s := s) (m := m) (args := args) (below := below) (meth := meth) (c := c) (H := T'.heap) (locs := locs ++ L) (cells := cells + rm.cells) (slots := slots + rm.slots) (Q := Q) (pc := pc) (ls := ls) (rest := rest) hC.2.2.2.1 x suf hsplit hx h0 (hC.2.2.2.2.1 _ hlink) (kN_use hcast (hC.2.2.2.2.2.1.2.1 _ hcast)) (by rw [e1]; exact hce) hcv hcl (kk q T'.heap (locs ++ L) hW1)
  obtain ⟨t2, a1, b1⟩ := hcat T' rfl X'
  exact ⟨t2, st.trans a1, b1⟩
end KX

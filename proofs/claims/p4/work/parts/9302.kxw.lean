/-! methods that may throw: the world behind a throw -/
def kXW (γ : kΓ) (A : Nat → Prop) (postX : va_W → Prop) : String → State → State → Prop := fun E st t => E = "java/util/NoSuchElementException" ∧ va_F A st t ∧ ∃ w1, postX w1 ∧ va_P γ.1 vwCl w1 t.heap ∧ va_D A w1
def kMT (γ : kΓ) (l : Launch) (y : MethodName) (cc : ByteArray) (maxL : Nat) (ret : Option FieldType) (rm : Room) (av : List Value) (wc : va_W) (post : Option Value → va_W → Prop) (postX : va_W → Prop) : Prop :=
  ∀ sz : Nat, vx_Met l y (.code y cc maxL ret :: kG) rm (kP γ av wc sz) (kQ γ (va_A wc sz) post) (kXW γ (va_A wc sz) postX) rm.cells rm.slots (va_A wc sz)
theorem k_ofWT {γ : kΓ} {l : Launch} {y : MethodName} {cc : ByteArray} {maxL : Nat} {ret : Option FieldType} {rm : Room} {av : List Value} {wc : va_W} {post : Option Value → va_W → Prop} {postX : va_W → Prop}
    (hy : plainName y.cls = true) (hn : (lg_sl av).length ≤ maxL)
    (body : ∀ (p : Program) (e : Env) (s : State) (m : MethodId) (below : List Frame) (meth : Method) (c : Code) (A : Nat → Prop) (ls : Array Slot), kC γ p s m av.toArray c cc maxL y.cls A → meth.sig.returnType = ret → meth.locks = false → (∀ x ∈ c.exceptionTable.toList, False) →
      kW γ A wc s s.heap [] → lv_has ls maxL (lv_args 0 av) →
      W p l e rm s m av.toArray below meth c s.heap [] 0 0 (vx_MQ below (kQ γ A post) (kXW γ A postX) av.toArray s rm.cells rm.slots A) (F0 m 0 ls [])) : kMT γ l y cc maxL ret rm av wc post postX := by
  intro sz
  refine vx_ofW (cc := cc) (maxL := maxL) (ret := ret) hy rfl ?_
  intro p e s m args below meth c s₁ B hml hT hv
  obtain ⟨rfl, hsz, hP, hD0, hb0, hE⟩ := hv
  have hts := atoms_spec (ws := .code y cc maxL ret :: kG) B.pre
  subst hsz
  rw [lg_entry_eq]
  exact body p e s m below meth c (va_A wc s.heap.size) _ ⟨B.exec, B.bytes, hml, findClass_of_methodNamed B.named, fun w hw => hts w (List.mem_cons_of_mem _ hw), hE, fun q h => Or.inr h, fun q h => by
      rcases h with ⟨k, e9, h⟩ | h
      · exact hD0.2 k _ h
      · exact Nat.le_trans hb0 h⟩ B.returns B.notSynchronized hT ⟨hP, hD0.self, va_S.rf⟩ (lv_entry av hn)
section KXW
variable {γ : kΓ} {p : Program} {l : Launch} {e : Env} {R : Room} {s : State} {m : MethodId} {args : Array Value} {below : List Frame} {meth : Method} {c : Code} {H : Heap} {locs : List Loc} {cells slots : Nat} {Q : State → Prop}
variable {cc : ByteArray} {nL pc : Nat} {own : String} {A : Nat → Prop} {ws : va_W} {ls : Array Slot} {rest st0 : List Value}
theorem k_throwW {post : Option Value → va_W → Prop} {postX : va_W → Prop} (hC : kC γ p s m args c cc nL RX11 A) (hl9 : l.stackTraces = false) (hw : kW γ A ws s H locs) (hml : ls.size = nL) (hT : ∀ x ∈ c.exceptionTable.toList, False) (hlocks : meth.locks = false) {mc ms : Nat}
    (d0 : decode cc pc = .ok (.new 225, 3)) (d3 : decode cc (pc + 3) = .ok (.dup, 1)) (d4 : decode cc (pc + 4) = .ok (.invokespecial 227, 3)) (d7 : decode cc (pc + 7) = .ok (.athrow, 1))
    (h1 : 5 < R.frames) (h2 : (rest.map fun v => v.category).sum + 81 ≤ R.locals) (h3 : cells + 1 ≤ R.cells) (h4 : slots + 6 ≤ R.slots) (h5 : cells + 1 ≤ mc) (h6 : slots + 6 ≤ ms) (hp : postX ws) :
    W p l e R s m args below meth c H locs cells slots (vx_MQ below (kQ γ A post) (kXW γ A postX) args s mc ms A) (F0 m pc ls rest) := by
  refine vx_throw0 (names := kNames) (A := A) hC.1 hC.2.1 hl9 hC.2.2.2.1 (by decide) (by decide) (hC.2.2.2.2.1 _ kx_cl) (hC.2.2.2.2.1 _ kx_in) ?_ kx_good
    (vx_Zq.narrow hC.2.2.2.2.2.1.2.2.2.1 (fun q h => hC.2.2.2.2.2.2.2 q h)) (vx_Zq.narrow hC.2.2.2.2.2.1.2.2.2.2.1 (fun q h => hC.2.2.2.2.2.2.2 q h)) hw.2.2 (hml.trans hC.2.2.1.symm) d0 d3 d4 d7 (fun x hx => (hT x hx).elim) h1 h2 h3 h4 hlocks ?_ hw.2.2.2.2 h5 h6
  · exact kx_hold hC.2.2.2.2.1 hC.2.2.2.2.2.1
  · intro t _ hz hk
    exact ⟨rfl, ⟨Nat.le_trans hw.2.2.1 hz, fun q h1 h2 => (hk q (Nat.lt_of_lt_of_le h1 hw.2.2.1)).trans (hw.2.2.2.1 q h1 h2)⟩, ws, hp, hw.1.kept (fun k q hk1 => hk q.1 (hw.1 k q hk1).lt), hw.2.1⟩
variable {y : MethodName} {bytes : ByteArray} {maxL n index : Nat} {ret : Option FieldType} {rm : Room} {wc wr : va_W} {post : Option Value → va_W → Prop} {postX : va_W → Prop} {As : List Value} {b : Nat}
theorem k_VT (n : Nat) (hl : Cond.methodLink own index y ∈ kG) (hi : Cond.instanceMethod y ∈ kG) (hse : Cond.selects y.cls y y ∈ kG) (hz : Cond.initialized y.cls ∈ kG) (hcode : Cond.code y bytes maxL ret ∈ kG)
    (hd : y.cls ≠ "java/lang/invoke/MethodHandle" ∧ y.cls ≠ "java/lang/invoke/VarHandle" ∧ (parseMethodDescriptor y.desc).map (fun d => d.parameters.length) = some n)
    (hC : kC γ p s m args c cc nL own A) (hw : kW γ A ws s H locs) (hM : kMT γ l y bytes maxL ret rm (.ref b :: As) wc post postX) (hR : rm.frames + 1 ≤ R.frames ∧ 8 + (maxL + 11) + rm.locals ≤ R.locals) (hf : cells + rm.cells ≤ R.cells ∧ slots + rm.slots ≤ R.slots)
    (hml : ls.size = nL) (hn : As.length = n) (qb : Nat) {ci : Nat} {T : u_T} {N : Nat} {fs : List Value} (hb : ws[qb]? = some (b, .inr (ci, fs))) (hc : vwCl[ci]? = some (y.cls, T, N)) (hstack : st0 = As.reverse ++ .ref b :: rest) (hW : (rest.map fun v => v.category).sum ≤ 8)
    (isC isR : List Nat) (hnc : va_nd isC = true) (hcs : isC.map (fun i => ws[i]?) = wc.map some) (hrs : isR.map (fun i => ws[i]?) = wr.map some) (hnr : va_nd isR = true) (hdis : ∀ i ∈ isR, i ∉ isC) (hdg : decode cc pc = .ok (.invokevirtual index, 3))
    (x : ExceptionTableEntry) (suf : List ExceptionTableEntry) (hsplit : c.exceptionTable.toList = x :: suf) (hx : covers x pc = true) (h0 : x.catchType ≠ 0)
    (hlink : Cond.classLink own x.catchType "java/util/NoSuchElementException" ∈ kG) (hcast : Cond.castable "java/util/NoSuchElementException" "java/util/NoSuchElementException" ∈ kN)
    (kk : ∀ (r : Option Value) (w1 : va_W) (H1 : Heap) (locs1 : List Loc), post r w1 → kW γ A (wr ++ w1) s H1 locs1 → W p l e R s m args below meth c H1 locs1 (cells + rm.cells) (slots + rm.slots) Q (F0 m (pc + 3) ls (r.toList ++ rest)))
    (kx : ∀ (q9 : Nat) (w1 : va_W) (H1 : Heap) (locs1 : List Loc), postX w1 → kW γ A (wr ++ w1) s H1 locs1 → W p l e R s m args below meth c H1 locs1 (cells + rm.cells) (slots + rm.slots) Q (F0 m x.handlerPc ls [.ref q9])) : W p l e R s m args below meth c H locs cells slots Q (F0 m pc ls st0) := by
  have hr := vx_runV (l := l) (R := R) (e := e) (below := below) (meth := meth) (locs := locs) (cells := cells) (slots := slots) (g := F0 m pc ls st0) (As := As) (rest := rest) (Ts := kG) ⟨hC.1, hC.2.1, hC.2.2.1, hC.2.2.2.1, hC.2.2.2.2.1⟩ (hM H.size) (cwV n hC.2.2.2.2.1 (k_words (ws0 := [.methodLink own index y, .instanceMethod y, .selects y.cls y y, .initialized y.cls]) (k_mem4 hl hi hse hz) hcode) rfl rfl rfl ⟨rfl, hd⟩ hR)
    ⟨(k_pre hC hw isC hnc hcs).1, va_recv hC.2.2.2.2.2.1.1 hw.1 hc hb, (k_pre hC hw isC hnc hcs).2⟩ rfl hn hml hstack (lv_room hW) hdg hf
  intro T9 hT9 X
  have hFc := va_free (wc := wc) hw.2.1 hw.2.2 hC.2.2.2.2.2.2.1 isC hcs
  rcases hr T9 hT9 X with ⟨v, st₀, t, T', L, h0', X', hL, e1, e2, ⟨⟨r, w1, hv, hp, hP1, hD1⟩, hz, hk⟩, st⟩ | ⟨q, st₀, t, T', L, E, ce, h0', X', hL, e1, e2, ⟨hE, ⟨hz9, hk⟩, w1, hp, hP1, hD1⟩, hce, hcv, hcl, st⟩
  · cases hv
    rw [h0'] at hz hk
    have hk1 : ∀ q : Nat, q < H.size → ¬ va_A wc H.size q → T'.heap[q]? = H[q]? := fun q h1 h2 => by rw [e1]; exact hk q h1 h2
    obtain ⟨hP, hD⟩ := va_join (wr := wr) (w1 := w1) hw.1 hw.2.1 isC isR hcs hrs hnr hdis hk1 hFc (by rw [e1]; exact hP1) hD1
    obtain ⟨t2, a1, b1⟩ := kk v w1 T'.heap (locs ++ L) hp ⟨hP, hD, Nat.le_trans hw.2.2.1 (by rw [e1]; exact hz), fun q h1 h2 => by
        rw [e1, hk q (Nat.lt_of_lt_of_le h1 hw.2.2.1) (fun z => h2 (hFc q z))]; exact hw.2.2.2.1 q h1 h2, fun q hq => by
        rcases List.mem_append.mp hq with h | h
        · exact hw.2.2.2.2 q h
        · exact hFc _ (hL q h)⟩ T' rfl X'
    exact ⟨t2, st t2 a1, b1⟩
  subst hE
  rw [h0'] at hz9 hk
  have hk1 : ∀ q : Nat, q < H.size → ¬ va_A wc H.size q → T'.heap[q]? = H[q]? := fun q h1 h2 => by rw [e1]; exact hk q h1 h2
  obtain ⟨hP, hD⟩ := va_join (wr := wr) (w1 := w1) hw.1 hw.2.1 isC isR hcs hrs hnr hdis hk1 hFc (by rw [e1]; exact hP1) hD1
  have hW1 : kW γ A (wr ++ w1) s T'.heap (locs ++ L) := ⟨hP, hD, Nat.le_trans hw.2.2.1 (by rw [e1]; exact hz9), fun q h1 h2 => by
      rw [e1, hk q (Nat.lt_of_lt_of_le h1 hw.2.2.1) (fun z => h2 (hFc q z))]; exact hw.2.2.2.1 q h1 h2, fun q hq => by
      rcases List.mem_append.mp hq with h | h
      · exact hw.2.2.2.2 q h
      · exact hFc _ (hL q h)⟩
  have hcat := kx_catch (p := p) (l := l) (e := e) (R := R) (s := s) (m := m) (args := args) (below := below) (meth := meth) (c := c) (H := T'.heap) (locs := locs ++ L) (cells := cells + rm.cells) (slots := slots + rm.slots) (Q := Q) (pc := pc) (ls := ls) (rest := rest) hC.2.2.2.1 x suf hsplit hx h0 (hC.2.2.2.2.1 _ hlink) (kN_use hcast (hC.2.2.2.2.2.1.2.1 _ hcast)) (by rw [e1]; exact hce) hcv hcl (kx q w1 T'.heap (locs ++ L) hp hW1)
  obtain ⟨t2, a1, b1⟩ := hcat T' rfl X'
  exact ⟨t2, st.trans a1, b1⟩
end KXW
/-! lists of places -/
theorem b_ndup : ∀ {l : List Nat}, l.Nodup → va_nd l = true
  | [], _ => rfl
  | a :: l, h => by
    rw [List.nodup_cons] at h
    simp only [va_nd, Bool.and_eq_true, decide_eq_true_eq]
    exact ⟨h.1, b_ndup h.2⟩
def bsh (n k : Nat) : List Nat := (List.range k).map (fun i => n + i)
theorem b_ndsh (n k : Nat) : va_nd (bsh n k) = true := b_ndup (List.Pairwise.map _ (fun a b (h : a ≠ b) => by omega) List.nodup_range)
theorem b_ap1 (a b : va_W) : (List.range a.length).map (fun i => (a ++ b)[i]?) = a.map some := by
  rw [← q_all a]
  apply List.map_congr_left
  intro i hi
  rw [List.getElem?_append_left (List.mem_range.mp hi)]
theorem b_ap2 (a b : va_W) : (bsh a.length b.length).map (fun i => (a ++ b)[i]?) = b.map some := by
  unfold bsh
  rw [List.map_map, ← q_all b]
  apply List.map_congr_left
  intro i hi
  show (a ++ b)[a.length + i]? = b[i]?
  rw [List.getElem?_append_right (by omega)]
  congr 1
  omega
theorem b_apd (n k : Nat) : ∀ i ∈ bsh n k, i ∉ List.range n := fun i hi h => by
  unfold bsh at hi
  obtain ⟨j, -, rfl⟩ := List.mem_map.mp hi
  have := List.mem_range.mp h
  omega
section LV
variable {γ : kΓ} {p : Program} {l : Launch} {e : Env} {R : Room} {s : State} {m : MethodId} {args : Array Value} {below : List Frame} {meth : Method} {c : Code} {H : Heap} {locs : List Loc} {cells slots : Nat} {Q : State → Prop}
variable {cc : ByteArray} {nL pc : Nat} {own : String} {A : Nat → Prop} {ls : Array Slot} {rest st0 : List Value}
variable {y : MethodName} {bytes : ByteArray} {maxL n index : Nat} {ret : Option FieldType} {rm : Room} {wc wr : va_W} {post : Option Value → va_W → Prop} {postX : va_W → Prop} {As : List Value} {b : Nat}
/-- a call whose world stands in front -/
theorem l_V (n : Nat) (hl : Cond.methodLink own index y ∈ kG) (hi : Cond.instanceMethod y ∈ kG) (hse : Cond.selects y.cls y y ∈ kG) (hz : Cond.initialized y.cls ∈ kG) (hcode : Cond.code y bytes maxL ret ∈ kG)
    (hd : y.cls ≠ "java/lang/invoke/MethodHandle" ∧ y.cls ≠ "java/lang/invoke/VarHandle" ∧ (parseMethodDescriptor y.desc).map (fun d => d.parameters.length) = some n)
    (hC : kC γ p s m args c cc nL own A) (hw : kW γ A (wc ++ wr) s H locs) (hM : kM γ l y bytes maxL ret rm (.ref b :: As) wc post) (hR : rm.frames + 1 ≤ R.frames ∧ 8 + (maxL + 11) + rm.locals ≤ R.locals) (hf : cells + rm.cells ≤ R.cells ∧ slots + rm.slots ≤ R.slots)
    (hml : ls.size = nL) (hn : As.length = n) {ci : Nat} {T : u_T} {N : Nat} {fs : List Value} (hb : wc[0]? = some (b, .inr (ci, fs))) (hc : vwCl[ci]? = some (y.cls, T, N)) (hstack : st0 = As.reverse ++ .ref b :: rest) (hW : (rest.map fun v => v.category).sum ≤ 8) (hdg : decode cc pc = .ok (.invokevirtual index, 3))
    (kk : ∀ (r : Option Value) (w1 : va_W) (H1 : Heap) (locs1 : List Loc), post r w1 → kW γ A (w1 ++ wr) s H1 locs1 → W p l e R s m args below meth c H1 locs1 (cells + rm.cells) (slots + rm.slots) Q (F0 m (pc + 3) ls (r.toList ++ rest))) : W p l e R s m args below meth c H locs cells slots Q (F0 m pc ls st0) :=
  k_V (wr := wr) n hl hi hse hz hcode hd hC hw hM hR hf hml hn 0 (by rw [List.getElem?_append_left (List.getElem?_eq_some_iff.mp hb).1]; exact hb) hc hstack hW (List.range wc.length) (bsh wc.length wr.length) (q_nd _) (b_ap1 wc wr) (b_ap2 wc wr) (b_ndsh _ _) (b_apd _ _) hdg (fun r w1 H1 locs1 hp hw => kk r w1 H1 locs1 hp (hw.perm List.perm_append_comm))
theorem l_VT (n : Nat) (hl : Cond.methodLink own index y ∈ kG) (hi : Cond.instanceMethod y ∈ kG) (hse : Cond.selects y.cls y y ∈ kG) (hz : Cond.initialized y.cls ∈ kG) (hcode : Cond.code y bytes maxL ret ∈ kG)
    (hd : y.cls ≠ "java/lang/invoke/MethodHandle" ∧ y.cls ≠ "java/lang/invoke/VarHandle" ∧ (parseMethodDescriptor y.desc).map (fun d => d.parameters.length) = some n)
    (hC : kC γ p s m args c cc nL own A) (hw : kW γ A (wc ++ wr) s H locs) (hM : kMT γ l y bytes maxL ret rm (.ref b :: As) wc post postX) (hR : rm.frames + 1 ≤ R.frames ∧ 8 + (maxL + 11) + rm.locals ≤ R.locals) (hf : cells + rm.cells ≤ R.cells ∧ slots + rm.slots ≤ R.slots)
    (hml : ls.size = nL) (hn : As.length = n) {ci : Nat} {T : u_T} {N : Nat} {fs : List Value} (hb : wc[0]? = some (b, .inr (ci, fs))) (hc : vwCl[ci]? = some (y.cls, T, N)) (hstack : st0 = As.reverse ++ .ref b :: rest) (hW : (rest.map fun v => v.category).sum ≤ 8) (hdg : decode cc pc = .ok (.invokevirtual index, 3))
    (x : ExceptionTableEntry) (suf : List ExceptionTableEntry) (hsplit : c.exceptionTable.toList = x :: suf) (hx : covers x pc = true) (h0 : x.catchType ≠ 0)
    (hlink : Cond.classLink own x.catchType "java/util/NoSuchElementException" ∈ kG) (hcast : Cond.castable "java/util/NoSuchElementException" "java/util/NoSuchElementException" ∈ kN)
    (kk : ∀ (r : Option Value) (w1 : va_W) (H1 : Heap) (locs1 : List Loc), post r w1 → kW γ A (wr ++ w1) s H1 locs1 → W p l e R s m args below meth c H1 locs1 (cells + rm.cells) (slots + rm.slots) Q (F0 m (pc + 3) ls (r.toList ++ rest)))
    (kx : ∀ (q9 : Nat) (w1 : va_W) (H1 : Heap) (locs1 : List Loc), postX w1 → kW γ A (wr ++ w1) s H1 locs1 → W p l e R s m args below meth c H1 locs1 (cells + rm.cells) (slots + rm.slots) Q (F0 m x.handlerPc ls [.ref q9])) : W p l e R s m args below meth c H locs cells slots Q (F0 m pc ls st0) :=
  k_VT (wr := wr) n hl hi hse hz hcode hd hC hw hM hR hf hml hn 0 (by rw [List.getElem?_append_left (List.getElem?_eq_some_iff.mp hb).1]; exact hb) hc hstack hW (List.range wc.length) (bsh wc.length wr.length) (q_nd _) (b_ap1 wc wr) (b_ap2 wc wr) (b_ndsh _ _) (b_apd _ _) hdg x suf hsplit hx h0 hlink hcast kk kx
end LV
theorem q_rtV {γ : kΓ} {p : Program} {l : Launch} {e : Env} {R : Room} {s : State} {m : MethodId} {args : Array Value} {below : List Frame} {meth : Method} {c : Code} {cc : ByteArray} {nL : Nat} {own : String} {A : Nat → Prop} {post : Option Value → va_W → Prop} {XC : String → State → State → Prop} {mc ms0 : Nat} (hC : kC γ p s m args c cc nL own A) (hlocks : meth.locks = false) (hr : meth.sig.returnType = some .int) {D : qWd} {adr : List Nat} {X : va_W → Prop} {ms : qMods} {w0 : va_W} (σ : qσ) :
    qRt (γ, p, l, e, R, s, m, args, below, meth, c, vx_MQ below (kQ γ A post) XC args s mc ms0 A, (cc, nL, own), A, D, adr, X, ms, w0, σ) 1 post := by
  intro ws H locs pc ls hw
  refine ⟨fun h0 => absurd h0 (by decide), fun v hv hd hp => ?_, fun v h3 => absurd h3 (by decide)⟩
  exact vx_ret (k_iret hC hr hlocks hw (List.range ws.length) (q_nd _) (q_all ws) hp (Nat.zero_le _) (Nat.zero_le _) hd)
/-- the contract of a method of the class that may throw -/
theorem q_semT {γ : kΓ} {l : Launch} {D : qWd} {X : va_W → Prop} {MT : List qMt} {xr : List Nat} {tb : qTb} {B : List qCon} {c : qCon} {T : qPg} {thr : List Nat} {sps : List (Nat × Nat)} {cuts : List qCut} {fu : Nat} {yn : MethodName} {cc : ByteArray} {nL : Nat} (hl9 : l.stackTraces = false) (hD : qDok D = true) (hown : yn.cls = RX11)
    (hX : ∀ (adr : List Nat) (ws : va_W) (q g a : Nat) (c : va_E), D.1[q]? = some g → ¬ g ∈ xr → ws.map Prod.fst = adr → adr[q]? = some a → X ws → X (ws.set q (a, c))) (htb : qTbk RX11 MT tb) (hcon : ∀ c ∈ B, qSem γ l D X MT c) (hT : qPgk T cc = true) (hchk : qchk D xr tb MT B nL 1 c T thr sps cuts fu = true)
    (hdc : ∀ pc ∈ thr, decode cc pc = .ok (.new 225, 3) ∧ decode cc (pc + 3) = .ok (.dup, 1) ∧ decode cc (pc + 4) = .ok (.invokespecial 227, 3) ∧ decode cc (pc + 7) = .ok (.athrow, 1)) (hfr : 5 < c.1.2.1) (hlc : 81 ≤ c.1.2.2) {adr : List Nat} {ws : va_W} {av : List Value} (hp : qPre D γ X c adr ws av) :
    kMT γ l yn cc nL (some .int) { frames := c.1.2.1, cells := 1, slots := 6, locals := c.1.2.2 } av ws (qPost D γ X c adr ws av) (fun w1 => qH D γ adr (fun _ _ => False) w1 ∧ X w1 ∧ qK D c.2.2.2.2.2 ws w1) := by
  have hslot : (lg_sl av).length ≤ nL := by
    obtain ⟨p1, p2, p3, p4, p5⟩ := hp
    unfold qchk at hchk
    split at hchk
    · rename_i z hz
      split at hchk
      · split at hchk
        · simp only [Bool.and_eq_true, Nat.ble_eq] at hchk
          have n0 : qsN D (fun _ => none) ([], [], []) := ⟨fun _ _ => rfl, fun v iv h => by simp at h, fun a b d h => by simp at h, fun v g V d h => by simp at h⟩
          have m0 : qsM D γ adr (fun _ => none) (fun n => if n < D.2.2 then adr[n]? else none) ([], [], []) ws := by
            refine ⟨fun n hn => by simp [hn], fun j g h => by simp at h, fun n hn => ?_, fun n k a h => by simp at h, p1.1, p1.2.1, fun q g a c hg hc => ?_⟩
            · simp at hn
              have : ¬ n < D.2.2 := by omega
              simp [this]
            · obtain ⟨r, r1, r2, r3⟩ := p1.2.2 q g a c hg hc
              exact ⟨r, r1, r2, fun k hk => (r3 k hk).elim (fun f => f.elim) .inr⟩
          obtain ⟨σ1, ρ1, s1, r1, n1, m1, f1⟩ := q_args (q_Dok hD) n0 m0 p3 hz
          rw [q_sl f1]
          exact hchk.1.1.1
        · cases hchk
      · cases hchk
    · cases hchk
  refine k_ofWT (by rw [hown]; decide) hslot ?_
  intro p e s m below meth cd A ls hC hr hlocks hT0 hw hl
  rw [hown] at hC
  exact q_ent hC (q_Dok hD) (hX adr) htb hcon ⟨Nat.le_refl _, Nat.le_refl _⟩ hT hp (fun σ => q_rtV hC hlocks hr σ) (fun σ pc hpc ws1 H1 locs1 ls1 lv1 hw1 hl1 hH1 hx1 hK1 => by
    obtain ⟨d0, d3, d4, d7⟩ := hdc pc hpc
    exact k_throwW hC hl9 hw1 hl1.1 hT0 hlocks d0 d3 d4 d7 hfr (by show 0 + 81 ≤ _; omega) (by show 0 + 1 ≤ 1; omega) (by show 0 + 6 ≤ 6; omega) (by show 0 + 1 ≤ 1; omega) (by show 0 + 6 ≤ 6; omega) ⟨hH1, hx1, hK1⟩) hchk hw hl
/-- a receiver -/
theorem c_recv {γ : kΓ} {ax : List Nat} {wx : va_W} (hH : qH cD γ ax (fun _ _ => False) wx) {x : Nat} (hx : ax[0]? = some x) : ∃ fs, wx[0]? = some (x, .inr (10, fs)) := by
  rw [← hH.1, List.getElem?_map, Option.map_eq_some_iff] at hx
  obtain ⟨⟨a, c⟩, h1, h2⟩ := hx
  have h2 : a = x := h2
  subst h2
  obtain ⟨r, r1, r2, -⟩ := hH.2.2 0 0 a c rfl h1
  cases r1
  cases c with
  | inl v =>
    obtain ⟨-, -, -, h⟩ := r2
    exfalso
    split at h
    · rcases h with h | h | h <;> exact absurd h (by decide)
    · exact absurd h (by decide)
    · rcases h with h | h <;> exact absurd h (by decide)
    · exact h
  | inr o =>
    have : o.1 = 10 := by have := r2.1; omega
    exact ⟨o.2, by rw [h1, ← this]⟩
theorem m_recv {γ : kΓ} {ax : List Nat} {wx : va_W} (hH : qH mD γ ax (fun _ _ => False) wx) {x : Nat} (hx : ax[0]? = some x) : ∃ fs, wx[0]? = some (x, .inr (11, fs)) := by
  rw [← hH.1, List.getElem?_map, Option.map_eq_some_iff] at hx
  obtain ⟨⟨a, c⟩, h1, h2⟩ := hx
  have h2 : a = x := h2
  subst h2
  obtain ⟨r, r1, r2, -⟩ := hH.2.2 0 0 a c rfl h1
  cases r1
  cases c with
  | inl v =>
    obtain ⟨-, -, -, h⟩ := r2
    exfalso
    split at h
    · rcases h with h | h | h <;> exact absurd h (by decide)
    · exact absurd h (by decide)
    · rcases h with h | h <;> exact absurd h (by decide)
    · exact h
  | inr o =>
    have : o.1 = 11 := by have := r2.1; omega
    exact ⟨o.2, by rw [h1, ← this]⟩
theorem v_int {D : qWd} {γ : kΓ} {adr : List Nat} (v : Int32) : qvT D γ adr (0, -2147483648, 2147483647) (.int v) := ⟨fun _ => ⟨v, rfl, b_anyI v⟩, fun h => (by cases h), fun h => (by cases h)⟩
theorem v_lng {D : qWd} {γ : kΓ} {adr : List Nat} (v : Int64) : qvT D γ adr (1, -9223372036854775808, 9223372036854775807) (.long v) := ⟨fun h => (by cases h), fun _ => ⟨v, rfl, b_anyL v⟩, fun h => (by cases h)⟩
theorem v_ref {D : qWd} {γ : kΓ} {adr : List Nat} {x : Nat} (h0 : D.1[0]? = some 0) (h : adr[0]? = some x) : qvT D γ adr (2, 0, 0) (.ref x) := ⟨fun h => (by cases h), fun h => (by cases h), fun _ => ⟨x, rfl, .inr ⟨0, h0, h⟩⟩⟩
def lri (c : qCon) : Bool := c.2.2.2.2.1.all (fun t => match t.1 with
  | some ty => ty.1 == 0
  | none => false)
theorem l_ri {D : qWd} {γ : kΓ} {X : va_W → Prop} {c : qCon} {adr : List Nat} {ws w1 : va_W} {av : List Value} {r : Option Value} (hc : lri c = true) (h : qPost D γ X c adr ws av r w1) : ∃ v : Int32, r = some (.int v) := by
  obtain ⟨-, -, -, t, t1, t2⟩ := h
  have h1 := List.all_eq_true.mp hc t t1
  rcases t2.1 with ⟨h2, -⟩ | ⟨ty, v, h2, rfl, h3⟩
  · rw [h2] at h1; cases h1
  · rw [h2] at h1
    simp only [beq_iff_eq] at h1
    obtain ⟨x, rfl, -⟩ := h3.1 h1
    exact ⟨x, rfl⟩

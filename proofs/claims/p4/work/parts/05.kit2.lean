section KW2
variable {γ : kΓ} {p : Program} {l : Launch} {e : Env} {R : Room} {s : State} {m : MethodId} {args : Array Value} {below : List Frame} {meth : Method} {c : Code} {H : Heap} {locs : List Loc} {cells slots : Nat} {Q : State → Prop}
variable {cc : ByteArray} {nL pc : Nat} {own : String} {A : Nat → Prop} {ws : va_W} {ls : Array Slot} {rest st0 : List Value} {post : Option Value → va_W → Prop}
theorem gw_oi : Cond.instanceMethod Lib.objectInit ∈ kG := kG_mk (by decide +kernel) (by decide +kernel)
theorem gw_oc : Cond.code Lib.objectInit ⟨#[0xb1]⟩ 1 none ∈ kG := kG_mk (by decide +kernel) (by decide +kernel)
theorem k_objInit (hC : kC γ p s m args c cc nL own A) {idx : Nat} (hl : Cond.methodLink own idx Lib.objectInit ∈ kG) {a : Nat} (hml : ls.size = nL) (hf : 1 ≤ R.frames) (hlo : (rest.map fun v => v.category).sum + 12 ≤ R.locals) (hdg : decode cc pc = .ok (.invokespecial idx, 3))
    (kk : W p l e R s m args below meth c H locs cells slots Q (F0 m (pc + 3) ls rest)) : W p l e R s m args below meth c H locs cells slots Q (F0 m pc ls (.ref a :: rest)) :=
  W.objInit hC.1 hC.2.1 hC.2.2.2.1 (hC.2.2.2.2.1 _ hl) (hC.2.2.2.2.1 _ gw_oi) (hC.2.2.2.2.1 _ gw_oc) rfl (hml.trans hC.2.2.1.symm) rfl hdg hf (by show 2 * 0 + _ + 12 ≤ _; omega) (W.eq rfl kk)
theorem k_nothing (hC : kC γ p s m args c cc nL own A) (hw : kW γ A ws s H locs) {index : Nat} (hg : Cond.fieldLink own index RX10 "NOTHING" "LTithedThoughts$Word;" ∈ kG) (hdg : decode cc pc = .ok (.getstatic index, 3))
    (kk : W p l e R s m args below meth c H locs cells slots Q (F0 m (pc + 3) ls (.ref γ.2.2.2.1 :: rest))) : W p l e R s m args below meth c H locs cells slots Q (F0 m pc ls rest) :=
  va_gets hC.1 hC.2.1 (va_Z.narrow hC.2.2.2.2.2.1.2.2.1 (fun q h => hC.2.2.2.2.2.2.2 q h)) hw.2.2 hC.2.2.2.1 (hC.2.2.2.2.1 _ hg) (fun _ h => h) hdg kk
theorem k_clsq {κ : Nat → ClassId} {D : va_G} {cA : ClassId} {C : String} (hK : va_K D vwCl (kT κ) s) (t0 : Nat) (ht : (kT κ)[t0]? = some (κ t0, .object C)) (hK2 : va_K D vwCl (kT κ ++ [(cA, .object C)]) s) : cA = κ t0 := by
  obtain ⟨_, _, _, _, _, h1⟩ := (hK.2 t0 _ ht).2
  obtain ⟨_, _, _, _, _, h2⟩ := (hK2.2 6 (cA, .object C) rfl).2
  exact Option.some.inj (h2.symm.trans h1)
theorem k_newq (hC : kC γ p s m args c cc nL own A) (hw : kW γ A ws s H locs) {C : String} {index : Nat} (hcl : Cond.classLink own index C ∈ kG) (ho : Cond.arrayOver (.object C) ∈ kN) (t0 : Nat) (ht : (kT γ.2.1)[t0]? = some (γ.2.1 t0, .object C))
    {n : Int32} {N' : Nat} (hn : ¬ n < 0) (hN : n.toNatClampNeg = N') (hbytes : N' * 4 ≤ 536870912) (hcells : cells + 1 ≤ R.cells) (hslots : slots + N' ≤ R.slots) (hdg : decode cc pc = .ok (.anewarray index, 3))
    (kk : ∀ (q : Nat) (H1 : Heap), kW γ A (ws ++ [(q, .inl (γ.2.1 t0, N', .inr (.inr (.inr (.inr (fun _ => none))))))]) s H1 locs → W p l e R s m args below meth c H1 locs (cells + 1) (slots + N') Q (F0 m (pc + 3) ls (.ref q :: rest))) : W p l e R s m args below meth c H locs cells slots Q (F0 m pc ls (.int n :: rest)) :=
  va_newq hC.1 hC.2.1 hC.2.2.2.1 (hC.2.2.2.2.1 _ hcl) (hC.2.2.2.2.2.1.2.1 _ ho) hC.2.2.2.2.2.1.1 hw.1 hw.2.1 hw.2.2 hC.2.2.2.2.2.2.1 hn hN hbytes hcells hslots hdg (fun q cA H1 hK2 h1 h2 h3 => by
    have e9 := k_clsq hC.2.2.2.2.2.1.1 t0 ht hK2
    subst e9
    exact kk q H1 ⟨h1, h2, h3⟩)
theorem k_astq (hC : kC γ p s m args c cc nL own A) (hw : kW γ A ws s H locs) (q0 t0 qk ci : Nat) {r : vw_C} {a n v : Nat} {vs : List Value} {f : Nat → Option Nat} (ha : ws[q0]? = some (a, .inl (γ.2.1 t0, n, .inr (.inr (.inr (.inr f)))))) (ht : (kT γ.2.1)[t0]? = some (γ.2.1 t0, .object r.1)) (hv : ws[qk]? = some (v, .inr (ci, vs))) (hc : vwCl[ci]? = some r) {i : Int32} (hin : vp_in i n) (hdg : decode cc pc = .ok (.aastore, 1))
    (kk : ∀ (H1 : Heap) (locs1 : List Loc), kW γ A (ws.set q0 (a, .inl (γ.2.1 t0, n, .inr (.inr (.inr (.inr (va_up f i.toNatClampNeg (some v)))))))) s H1 locs1 → W p l e R s m args below meth c H1 locs1 cells slots Q (F0 m (pc + 1) ls rest)) : W p l e R s m args below meth c H locs cells slots Q (F0 m pc ls (.ref v :: .int i :: .ref a :: rest)) :=
  va_astq hC.1 hC.2.1 hC.2.2.2.2.2.1.1 hw.1 hw.2.1 hw.2.2 q0 t0 qk ci ha ht hv hc hin hdg (fun H1 locs1 h1 h2 h3 => kk H1 locs1 ⟨h1, h2, h3⟩)
theorem k_aldq (hC : kC γ p s m args c cc nL own A) (hw : kW γ A ws s H locs) (q0 t0 : Nat) {C : String} {a n : Nat} {f : Nat → Option Nat} (ha : ws[q0]? = some (a, .inl (γ.2.1 t0, n, .inr (.inr (.inr (.inr f)))))) (ht : (kT γ.2.1)[t0]? = some (γ.2.1 t0, .object C)) {i : Int32} (hin : vp_in i n) {v : Value} (hv : va_rf (f i.toNatClampNeg) = v) (hdg : decode cc pc = .ok (.aaload, 1))
    (kk : W p l e R s m args below meth c H locs cells slots Q (F0 m (pc + 1) ls (v :: rest))) : W p l e R s m args below meth c H locs cells slots Q (F0 m pc ls (.int i :: .ref a :: rest)) :=
  va_aldq hC.1 hC.2.1 hC.2.2.2.2.2.1.1 hw.1 q0 t0 ha ht hin hdg (by rw [hv]; exact kk)
theorem gw_an : Cond.native arraycopyName ∈ kG := kG_mk (by decide +kernel) (by decide +kernel)
theorem gw_as : Cond.static arraycopyName ∈ kG := kG_mk (by decide +kernel) (by decide +kernel)
theorem gw_ai : Cond.initialized "java/lang/System" ∈ kG := kG_mk (by decide +kernel) (by decide +kernel)
theorem k_copyi (hC : kC γ p s m args c cc nL own A) (hw : kW γ A ws s H locs) {index : Nat} (hl : Cond.methodLink own index arraycopyName ∈ kG) (hml : ls.size = nL) (q0 q1 : Nat) {a0 a n0 n1 : Nat} {f g : Nat → Int32} (ha0 : ws[q0]? = some (a0, .inl (γ.2.1 0, n0, .inl f))) (ha1 : ws[q1]? = some (a, .inl (γ.2.1 0, n1, .inl g)))
    {sp dp n : Int32} (h1 : ¬ sp < 0) (h2 : ¬ dp < 0) (h3 : ¬ n < 0) (h4 : sp.toNatClampNeg + n.toNatClampNeg ≤ n0) (h5 : dp.toNatClampNeg + n.toNatClampNeg ≤ n1) (hframes : 1 ≤ R.frames) (hlocals : (rest.map fun v => v.category).sum + (nativeFrameWords "java/lang/System" "arraycopy" 5 + 11) ≤ R.locals) (hdg : decode cc pc = .ok (.invokestatic index, 3))
    (kk : ∀ (H1 : Heap) (locs1 : List Loc), kW γ A (ws.set q1 (a, .inl (γ.2.1 0, n1, .inl (va_cpy f g sp.toNatClampNeg dp.toNatClampNeg n.toNatClampNeg)))) s H1 locs1 → W p l e R s m args below meth c H1 locs1 cells slots Q (F0 m (pc + 3) ls rest)) : W p l e R s m args below meth c H locs cells slots Q (F0 m pc ls (.int n :: .int dp :: .ref a :: .int sp :: .ref a0 :: rest)) :=
  va_copyi hC.1 hC.2.1 (hC.2.2.1.trans hml.symm) hC.2.2.2.1 (hC.2.2.2.2.1 _ hl) (hC.2.2.2.2.1 _ gw_an) (hC.2.2.2.2.1 _ gw_as) (hC.2.2.2.2.1 _ gw_ai) hC.2.2.2.2.2.1.1 hw.1 hw.2.1 hw.2.2 q0 q1 0 0 (ty := .int) ha0 ha1 rfl rfl rfl h1 h2 h3 h4 h5 (fun _ _ => rfl) hframes hlocals hdg (fun H1 locs1 h1 h2 h3 => kk H1 locs1 ⟨h1, h2, h3⟩)
theorem k_copyl (hC : kC γ p s m args c cc nL own A) (hw : kW γ A ws s H locs) {index : Nat} (hl : Cond.methodLink own index arraycopyName ∈ kG) (hml : ls.size = nL) (q0 q1 : Nat) {a0 a n0 n1 : Nat} {f g : Nat → Int64} (ha0 : ws[q0]? = some (a0, .inl (γ.2.1 1, n0, .inr (.inl f)))) (ha1 : ws[q1]? = some (a, .inl (γ.2.1 1, n1, .inr (.inl g))))
    {sp dp n : Int32} (h1 : ¬ sp < 0) (h2 : ¬ dp < 0) (h3 : ¬ n < 0) (h4 : sp.toNatClampNeg + n.toNatClampNeg ≤ n0) (h5 : dp.toNatClampNeg + n.toNatClampNeg ≤ n1) (hframes : 1 ≤ R.frames) (hlocals : (rest.map fun v => v.category).sum + (nativeFrameWords "java/lang/System" "arraycopy" 5 + 11) ≤ R.locals) (hdg : decode cc pc = .ok (.invokestatic index, 3))
    (kk : ∀ (H1 : Heap) (locs1 : List Loc), kW γ A (ws.set q1 (a, .inl (γ.2.1 1, n1, .inr (.inl (va_cpy f g sp.toNatClampNeg dp.toNatClampNeg n.toNatClampNeg))))) s H1 locs1 → W p l e R s m args below meth c H1 locs1 cells slots Q (F0 m (pc + 3) ls rest)) : W p l e R s m args below meth c H locs cells slots Q (F0 m pc ls (.int n :: .int dp :: .ref a :: .int sp :: .ref a0 :: rest)) :=
  va_copyl hC.1 hC.2.1 (hC.2.2.1.trans hml.symm) hC.2.2.2.1 (hC.2.2.2.2.1 _ hl) (hC.2.2.2.2.1 _ gw_an) (hC.2.2.2.2.1 _ gw_as) (hC.2.2.2.2.1 _ gw_ai) hC.2.2.2.2.2.1.1 hw.1 hw.2.1 hw.2.2 q0 q1 1 1 (ty := .long) ha0 ha1 rfl rfl rfl h1 h2 h3 h4 h5 (fun _ _ => rfl) hframes hlocals hdg (fun H1 locs1 h1 h2 h3 => kk H1 locs1 ⟨h1, h2, h3⟩)
theorem k_zret {mc ms : Nat} {w1 : va_W} {v : Int32} (hC : kC γ p s m args c cc nL own A) (hr : meth.sig.returnType = some .boolean) (hlocks : meth.locks = false) (hz : narrow .boolean (.int v) = .int v) (hw : kW γ A ws s H locs) (is : List Nat) (hn : va_nd is = true) (hs : is.map (fun i => ws[i]?) = w1.map some) (hp : post (some (.int v)) w1) (hc : cells ≤ mc) (hsl : slots ≤ ms) (hdg : decode cc pc = .ok (.ireturn, 1)) :
    W p l e R s m args below meth c H locs cells slots (MQ below (kQ γ A post) args s mc ms A) (F0 m pc ls [.int v]) :=
  W.widen hc hsl (W.zret hC.1 hC.2.1 hr hz (fun t ht hW => k_end (mc := 0) (ms := 0) hw is hn hs hp t ht) hw.2.2.2.2 hdg hlocks)
theorem k_ldc2 (hC : kC γ p s m args c cc nL own A) {index : Nat} {v : Int64} (hg : Cond.constantLong own index v ∈ kG) (hdg : decode cc pc = .ok (.ldc2_w index, 3)) (k : W p l e R s m args below meth c H locs cells slots Q (F0 m (pc + 3) ls (.long v :: rest))) : W p l e R s m args below meth c H locs cells slots Q (F0 m pc ls rest) :=
  lv_ldc2 hC.1 hC.2.1 hC.2.2.2.1 (hC.2.2.2.2.1 _ hg) hdg k
theorem k_ldcw (hC : kC γ p s m args c cc nL own A) {index : Nat} {v : Int32} (hg : Cond.constant own index v ∈ kG) (hdg : decode cc pc = .ok (.ldc_w index, 3)) (k : W p l e R s m args below meth c H locs cells slots Q (F0 m (pc + 3) ls (.int v :: rest))) : W p l e R s m args below meth c H locs cells slots Q (F0 m pc ls rest) :=
  lv_ldcw hC.1 hC.2.1 hC.2.2.2.1 (hC.2.2.2.2.1 _ hg) hdg k
end KW2
theorem k_in0 {n : Nat} {i : Int32} (h : (0 : Int) ≤ i.toInt ∧ i.toInt < n) : vp_in i n := vp_in_iff.mpr h

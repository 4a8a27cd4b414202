/-! blocks: cells with their regions -/
abbrev bZ : Type := List (Nat × Nat × va_E)
def bVal (M : Nat → Nat → Prop) (t : qTy) (v : Value) : Prop :=
  (t.1 = 0 → ∃ x : Int32, v = .int x ∧ qIn t.2 x.toInt) ∧ (t.1 = 1 → ∃ x : Int64, v = .long x ∧ qIn t.2 x.toInt) ∧ (t.1 = 2 → ∃ a, v = .ref a ∧ M t.2.1.toNat a)
def bCell (D : qWd) (γ : kΓ) (M : Nat → Nat → Prop) (g : Nat) (c : va_E) : Prop := ∃ r, D.2.1[g]? = some r ∧ qsh γ r c ∧ ∀ k, k < r.2.1 → ∃ v, qrd c k = some v ∧ bVal M (qsg r.2.2 k) v
def bOk (D : qWd) (γ : kΓ) (M : Nat → Nat → Prop) (Z : bZ) : Prop := ∀ z ∈ Z, bCell D γ M z.1 z.2.2
def bCl (D : qWd) (γ : kΓ) (Z : bZ) : Prop := ∀ M : Nat → Nat → Prop, (∀ z ∈ Z, M z.1 z.2.1) → bOk D γ M Z
theorem b_nil {D : qWd} {γ : kΓ} {M : Nat → Nat → Prop} : bOk D γ M [] := fun z h => by cases h
theorem b_cons {D : qWd} {γ : kΓ} {M : Nat → Nat → Prop} {g a : Nat} {c : va_E} {Z : bZ} (h : bCell D γ M g c) (h2 : bOk D γ M Z) : bOk D γ M ((g, a, c) :: Z) := fun z hz => (List.mem_cons.mp hz).elim (fun e => by rw [e]; exact h) (h2 z)
theorem bCl.app {D : qWd} {γ : kΓ} {Z1 Z2 : bZ} (h1 : bCl D γ Z1) (h2 : bCl D γ Z2) : bCl D γ (Z1 ++ Z2) := fun M hM z hz => (List.mem_append.mp hz).elim (fun h => h1 M (fun z hz => hM z (List.mem_append_left _ hz)) z h) (fun h => h2 M (fun z hz => hM z (List.mem_append_right _ hz)) z h)
theorem bCl.nil {D : qWd} {γ : kΓ} : bCl D γ [] := fun _ _ _ h => by cases h
theorem b_in {D : qWd} {γ : kΓ} {Z : bZ} (hZ : Z.map Prod.fst = D.1) {z : Nat × Nat × va_E} (h : z ∈ Z) : qinR D γ ((Z.map Prod.snd).map Prod.fst) z.1 z.2.1 := by
  obtain ⟨q, hq⟩ := List.getElem?_of_mem h
  refine .inr ⟨q, ?_, ?_⟩
  · rw [← hZ, List.getElem?_map, hq]; rfl
  · rw [List.getElem?_map, List.getElem?_map, hq]; rfl
theorem b_H {D : qWd} {γ : kΓ} {Z : bZ} (hZ : Z.map Prod.fst = D.1) (h : bOk D γ (qinR D γ ((Z.map Prod.snd).map Prod.fst)) Z) : qH D γ ((Z.map Prod.snd).map Prod.fst) (fun _ _ => False) (Z.map Prod.snd) := by
  refine ⟨rfl, by rw [← hZ, List.length_map, List.length_map], fun q g a c hg hc => ?_⟩
  rw [List.getElem?_map, Option.map_eq_some_iff] at hc
  obtain ⟨z, hz, e⟩ := hc
  rw [← hZ, List.getElem?_map, hz] at hg
  have hg : z.1 = g := Option.some.inj hg
  obtain ⟨r, h1, h2, h3⟩ := h z (List.mem_of_getElem? hz)
  rw [hg] at h1
  rw [e] at h2 h3
  exact ⟨r, h1, h2, fun k hk => .inr (h3 k hk)⟩
theorem b_obj {D : qWd} {γ : kΓ} {M : Nat → Nat → Prop} {g ci : Nat} {fs : List Value} {r : qRT} {tys : List qTy} (hr : D.2.1[g]? = some r) (h1 : r.1 = 10 + ci) (h2 : fs.length = r.2.1) (ht : (List.range r.2.1).map (qsg r.2.2) = tys) (hF : F2 (bVal M) tys fs) : bCell D γ M g (.inr (ci, fs)) :=
  ⟨r, hr, ⟨h1, h2⟩, fun k hk => by
    have ha : tys[k]? = some (qsg r.2.2 k) := by rw [← ht]; simp [hk]
    obtain ⟨v, hv, hb⟩ := F2.idx hF ha
    exact ⟨v, hv, hb⟩⟩
theorem b_arrI {D : qWd} {γ : kΓ} {M : Nat → Nat → Prop} {g tp n : Nat} {lo hi : Int} {f : Nat → Int32} (hr : D.2.1[g]? = some (tp, n, [(n, (0, lo, hi))])) (ht : tp = 0 ∨ tp = 2 ∨ tp = 3) (hn : n < 2147483648) (hf : ∀ k, k < n → lo ≤ (f k).toInt ∧ (f k).toInt ≤ hi) : bCell D γ M g (.inl (γ.2.1 tp, n, .inl f)) :=
  ⟨_, hr, ⟨rfl, rfl, hn, ht⟩, fun k hk => by
    have hk : k < n := hk
    refine ⟨.int (f k), by show (if k < n then _ else none) = _; rw [if_pos hk], ?_⟩
    have e : qsg [(n, ((0, lo, hi) : qTy))] k = (0, lo, hi) := by simp only [qsg]; rw [if_pos hk]
    show bVal M (qsg [(n, ((0, lo, hi) : qTy))] k) _
    rw [e]
    exact ⟨fun _ => ⟨_, rfl, hf k hk⟩, fun h => (by cases h), fun h => (by cases h)⟩⟩
theorem b_arrL {D : qWd} {γ : kΓ} {M : Nat → Nat → Prop} {g n : Nat} {lo hi : Int} {f : Nat → Int64} (hr : D.2.1[g]? = some (1, n, [(n, (1, lo, hi))])) (hn : n < 2147483648) (hf : ∀ k, k < n → lo ≤ (f k).toInt ∧ (f k).toInt ≤ hi) : bCell D γ M g (.inl (γ.2.1 1, n, .inr (.inl f))) :=
  ⟨_, hr, ⟨rfl, rfl, hn, rfl⟩, fun k hk => by
    have hk : k < n := hk
    refine ⟨.long (f k), by show (if k < n then _ else none) = _; rw [if_pos hk], ?_⟩
    have e : qsg [(n, ((1, lo, hi) : qTy))] k = (1, lo, hi) := by simp only [qsg]; rw [if_pos hk]
    show bVal M (qsg [(n, ((1, lo, hi) : qTy))] k) _
    rw [e]
    exact ⟨fun h => (by cases h), fun _ => ⟨_, rfl, hf k hk⟩, fun h => (by cases h)⟩⟩
theorem b_arrQ {D : qWd} {γ : kΓ} {M : Nat → Nat → Prop} {g g' tp n : Nat} {u : Int} {f : Nat → Option Nat} (hr : D.2.1[g]? = some (tp, n, [(n, (2, (g' : Int), u))])) (ht : tp = 4 ∨ tp = 5) (hn : n < 2147483648) (hf : ∀ k, k < n → ∃ a, f k = some a ∧ M g' a) : bCell D γ M g (.inl (γ.2.1 tp, n, .inr (.inr (.inr (.inr f))))) :=
  ⟨_, hr, ⟨rfl, rfl, hn, ht⟩, fun k hk => by
    have hk : k < n := hk
    obtain ⟨a, h1, h2⟩ := hf k hk
    refine ⟨.ref a, by show (if k < n then some (va_rf (f k)) else none) = _; rw [if_pos hk, h1]; rfl, ?_⟩
    have e : qsg [(n, ((2, (g' : Int), u) : qTy))] k = (2, (g' : Int), u) := by simp only [qsg]; rw [if_pos hk]
    show bVal M (qsg [(n, ((2, (g' : Int), u) : qTy))] k) _
    rw [e]
    exact ⟨fun h => (by cases h), fun h => (by cases h), fun _ => ⟨a, rfl, h2⟩⟩⟩
theorem b_ref {M : Nat → Nat → Prop} {g u : Int} {a : Nat} (h : M g.toNat a) : bVal M (2, g, u) (.ref a) := ⟨fun h => (by cases h), fun h => (by cases h), fun _ => ⟨a, rfl, h⟩⟩
theorem b_int {M : Nat → Nat → Prop} {lo hi : Int} {x : Int32} (h : lo ≤ x.toInt ∧ x.toInt ≤ hi) : bVal M (0, lo, hi) (.int x) := ⟨fun _ => ⟨x, rfl, h⟩, fun h => (by cases h), fun h => (by cases h)⟩
theorem b_lng {M : Nat → Nat → Prop} {lo hi : Int} {x : Int64} (h : lo ≤ x.toInt ∧ x.toInt ≤ hi) : bVal M (1, lo, hi) (.long x) := ⟨fun h => (by cases h), fun _ => ⟨x, rfl, h⟩, fun h => (by cases h)⟩
theorem b_anyI (x : Int32) : (-2147483648 : Int) ≤ x.toInt ∧ x.toInt ≤ 2147483647 := ⟨Int32.le_toInt x, by have := Int32.toInt_lt x; omega⟩
theorem b_anyL (x : Int64) : (-9223372036854775808 : Int) ≤ x.toInt ∧ x.toInt ≤ 9223372036854775807 := ⟨Int64.le_toInt x, by have := Int64.toInt_lt x; omega⟩
theorem b_eqI {f : Nat → Int32} {n : Nat} {v : Int32} {lo hi : Int} (h : ∀ j, j < n → f j = v) (hv : lo ≤ v.toInt ∧ v.toInt ≤ hi) : ∀ k, k < n → lo ≤ (f k).toInt ∧ (f k).toInt ≤ hi := fun k hk => by rw [h k hk]; exact hv
/-! worlds -/
theorem kW.perm {γ : kΓ} {A : Nat → Prop} {ws ws' : va_W} {s : State} {H : Heap} {locs : List Loc} (hw : kW γ A ws s H locs) (hp : ws.Perm ws') : kW γ A ws' s H locs := by
  have nd : (ws.map Prod.fst).Nodup := List.pairwise_iff_getElem.mpr (fun i j hi hj hij e => by
    rw [List.length_map] at hi hj
    rw [List.getElem_map, List.getElem_map] at e
    have := hw.2.1.1 i j _ _ (List.getElem?_eq_getElem hi) (List.getElem?_eq_getElem hj) e
    omega)
  have nd' : (ws'.map Prod.fst).Nodup := (hp.map Prod.fst).nodup nd
  refine ⟨fun k q hk => ?_, ⟨fun i j p q hi hj e => ?_, fun k q hk => ?_⟩, hw.2.2⟩
  · obtain ⟨k', hk'⟩ := List.getElem?_of_mem (hp.mem_iff.mpr (List.mem_of_getElem? hk))
    exact hw.1 k' q hk'
  · obtain ⟨hi1, hi2⟩ := List.getElem?_eq_some_iff.mp hi
    obtain ⟨hj1, hj2⟩ := List.getElem?_eq_some_iff.mp hj
    have key := List.pairwise_iff_getElem.mp nd'
    rcases Nat.lt_trichotomy i j with h | h | h
    · exact absurd (by rw [List.getElem_map, List.getElem_map, hi2, hj2]; exact e) (key i j (by rw [List.length_map]; exact hi1) (by rw [List.length_map]; exact hj1) h)
    · exact h
    · exact absurd (by rw [List.getElem_map, List.getElem_map, hi2, hj2]; exact e.symm) (key j i (by rw [List.length_map]; exact hj1) (by rw [List.length_map]; exact hi1) h)
  · obtain ⟨k', hk'⟩ := List.getElem?_of_mem (hp.mem_iff.mpr (List.mem_of_getElem? hk))
    exact hw.2.1.2 k' q hk'
theorem b_pm {S A B : va_W} : ((S ++ A) ++ B).Perm (S ++ (B ++ A)) := by
  rw [List.append_assoc]
  exact List.Perm.append_left S List.perm_append_comm
theorem b_pm4 {S A C B : va_W} : ((S ++ A) ++ (C ++ B)).Perm ((S ++ C) ++ (B ++ A)) := by
  rw [List.append_assoc, List.append_assoc]
  refine List.Perm.append_left S ?_
  rw [← List.append_assoc]
  refine (List.Perm.append_right B List.perm_append_comm).trans ?_
  rw [List.append_assoc]
  exact List.Perm.append_left C List.perm_append_comm
theorem b_sn1 (W0 : va_W) (c : Nat × va_E) : (List.range W0.length).map (fun i => (W0 ++ [c])[i]?) = W0.map some := by
  rw [← q_all W0]
  apply List.map_congr_left
  intro i hi
  rw [List.getElem?_append_left (List.mem_range.mp hi)]
theorem b_sn2 (W0 : va_W) (c : Nat × va_E) : [W0.length].map (fun i => (W0 ++ [c])[i]?) = [c].map some := by simp
theorem b_nd1 (n : Nat) : va_nd [n] = true := by simp [va_nd]
theorem b_dis (n : Nat) : ∀ i ∈ List.range n, i ∉ [n] := fun i hi h => by
  have := List.mem_range.mp hi
  have := List.mem_singleton.mp h
  omega
section BI
variable {γ : kΓ} {p : Program} {l : Launch} {e : Env} {R : Room} {s : State} {m : MethodId} {args : Array Value} {below : List Frame} {meth : Method} {c : Code} {H : Heap} {locs : List Loc} {cells slots : Nat} {Q : State → Prop}
variable {cc : ByteArray} {nL pc : Nat} {own : String} {A : Nat → Prop} {ws : va_W} {ls : Array Slot} {rest st0 : List Value}
variable {y : MethodName} {bytes : ByteArray} {maxL n index : Nat} {rm : Room} {post : Option Value → va_W → Prop} {As : List Value} {b : Nat} {c0 : va_E}
theorem b_I (n : Nat) (hl : Cond.methodLink own index y ∈ kG) (hi : Cond.instanceMethod y ∈ kG) (hz : Cond.initialized y.cls ∈ kG) (hcode : Cond.code y bytes maxL none ∈ kG) (hy1 : y.name = "<init>")
    (hd : y.cls ≠ "java/lang/invoke/MethodHandle" ∧ y.cls ≠ "java/lang/invoke/VarHandle" ∧ (parseMethodDescriptor y.desc).map (fun d => d.parameters.length) = some n)
    (hC : kC γ p s m args c cc nL own A) (hw : kW γ A (ws ++ [(b, c0)]) s H locs) (hM : kM γ l y bytes maxL none rm (.ref b :: As) [(b, c0)] post) (hR : rm.frames + 1 ≤ R.frames ∧ 8 + (maxL + 11) + rm.locals ≤ R.locals) (hf : cells + rm.cells ≤ R.cells ∧ slots + rm.slots ≤ R.slots)
    (hml : ls.size = nL) (hn : As.length = n) (hstack : st0 = As.reverse ++ .ref b :: rest) (hW : (rest.map fun v => v.category).sum ≤ 8) (hdg : decode cc pc = .ok (.invokespecial index, 3))
    (kk : ∀ (r : Option Value) (w1 : va_W) (H1 : Heap) (locs1 : List Loc), post r w1 → kW γ A (ws ++ w1) s H1 locs1 → W p l e R s m args below meth c H1 locs1 (cells + rm.cells) (slots + rm.slots) Q (F0 m (pc + 3) ls (r.toList ++ rest))) : W p l e R s m args below meth c H locs cells slots Q (F0 m pc ls st0) :=
  k_I (wr := ws) n hl hi hz hcode hy1 hd hC hw hM hR hf hml hn hstack hW [ws.length] (List.range ws.length) (b_nd1 _) (b_sn2 ws _) (b_sn1 ws _) (q_nd _) (b_dis _) hdg kk
theorem b_IN {host : String} (n : Nat) (hl : Cond.methodLinkNest own index y host ∈ kN) (hi : Cond.instanceMethod y ∈ kG) (hz : Cond.initialized y.cls ∈ kG) (hcode : Cond.code y bytes maxL none ∈ kG) (hy1 : y.name = "<init>")
    (hd : y.cls ≠ "java/lang/invoke/MethodHandle" ∧ y.cls ≠ "java/lang/invoke/VarHandle" ∧ (parseMethodDescriptor y.desc).map (fun d => d.parameters.length) = some n)
    (hC : kC γ p s m args c cc nL own A) (hw : kW γ A (ws ++ [(b, c0)]) s H locs) (hM : kM γ l y bytes maxL none rm (.ref b :: As) [(b, c0)] post) (hR : rm.frames + 1 ≤ R.frames ∧ 8 + (maxL + 11) + rm.locals ≤ R.locals) (hf : cells + rm.cells ≤ R.cells ∧ slots + rm.slots ≤ R.slots)
    (hml : ls.size = nL) (hn : As.length = n) (hstack : st0 = As.reverse ++ .ref b :: rest) (hW : (rest.map fun v => v.category).sum ≤ 8) (hdg : decode cc pc = .ok (.invokespecial index, 3))
    (kk : ∀ (r : Option Value) (w1 : va_W) (H1 : Heap) (locs1 : List Loc), post r w1 → kW γ A (ws ++ w1) s H1 locs1 → W p l e R s m args below meth c H1 locs1 (cells + rm.cells) (slots + rm.slots) Q (F0 m (pc + 3) ls (r.toList ++ rest))) : W p l e R s m args below meth c H locs cells slots Q (F0 m pc ls st0) :=
  k_IN (wr := ws) n hl hi hz hcode hy1 hd hC hw hM hR hf hml hn hstack hW [ws.length] (List.range ws.length) (b_nd1 _) (b_sn2 ws _) (b_sn1 ws _) (q_nd _) (b_dis _) hdg kk
end BI
/-- what a constructor gives: a closed block, its own object first -/
def bB (γ : kΓ) (gs : List Nat) (g0 ci h : Nat) (r : Option Value) (w1 : va_W) : Prop := r = none ∧ ∃ (Z : bZ) (fs : List Value) (Z2 : bZ), w1 = Z.map Prod.snd ∧ Z.map Prod.fst = gs ∧ bCl cD γ Z ∧ Z = (g0, h, .inr (ci, fs)) :: Z2
def gs7 : List Nat := [30, 31, 32, 33, 34, 35, 36]
def gsP : List Nat := [37, 30, 31, 32, 33, 34, 35, 36, 38, 39]
def gsA : List Nat := [21, 22, 23, 24, 25, 26, 27, 28, 29]
set_option maxHeartbeats 4000000 in
set_option maxRecDepth 100000 in
theorem b_X7 (γ : kΓ) (l : Launch) (h : Nat) : kM γ l yX7_init cX7_init 1 none ({ frames := 2, cells := 6, slots := 68, locals := 44 } : Room) [.ref h] [(h, .inr (7, [.null, .null, .null, .null, .null, .null, .int 0, .int 0, .int 0]))] (bB γ gs7 30 7 h) := by
  refine k_imp (c_X7_init γ l h) (fun r w1 hq => ?_)
  obtain ⟨h_l, h_c, h_g, h_r, h_k, h_b, gh_l, gh_c, gh_g, gh_r, gh_k, gh_b, rfl, rfl, f1, f2, f3, f4, f5, f6⟩ := hq
  exact ⟨rfl, [(30, h, .inr (7, [.ref h_l, .ref h_c, .ref h_g, .ref h_r, .ref h_k, .ref h_b, .int 0, .int 0, .int 0])), (31, h_l, .inl (γ.2.1 0, 5, .inl gh_l)), (32, h_c, .inl (γ.2.1 0, 5, .inl gh_c)), (33, h_g, .inl (γ.2.1 0, 5, .inl gh_g)), (34, h_r, .inl (γ.2.1 1, 5, .inr (.inl gh_r))), (35, h_k, .inl (γ.2.1 0, 40, .inl gh_k)), (36, h_b, .inl (γ.2.1 0, 8, .inl gh_b))], _, _, rfl, rfl, fun M hM => (b_cons (b_obj (tys := [(2, 31, 0), (2, 32, 0), (2, 33, 0), (2, 34, 0), (2, 35, 0), (2, 36, 0), (0, (-2147483648), 2147483647), (0, (-2147483648), 2147483647), (0, (-2147483648), 2147483647)]) rfl rfl rfl (by decide) ⟨b_ref (hM _ (.tail _ (.head _))), b_ref (hM _ (.tail _ (.tail _ (.head _)))), b_ref (hM _ (.tail _ (.tail _ (.tail _ (.head _))))), b_ref (hM _ (.tail _ (.tail _ (.tail _ (.tail _ (.head _)))))), b_ref (hM _ (.tail _ (.tail _ (.tail _ (.tail _ (.tail _ (.head _))))))), b_ref (hM _ (.tail _ (.tail _ (.tail _ (.tail _ (.tail _ (.tail _ (.head _)))))))), b_int (by decide), b_int (by decide), b_int (by decide), trivial⟩) (b_cons (b_arrI rfl (.inl rfl) (by decide) (b_eqI f1 (by decide))) (b_cons (b_arrI rfl (.inl rfl) (by decide) (fun k _ => b_anyI _)) (b_cons (b_arrI rfl (.inl rfl) (by decide) (fun k _ => b_anyI _)) (b_cons (b_arrL rfl (by decide) (fun k _ => b_anyL _)) (b_cons (b_arrI rfl (.inl rfl) (by decide) (fun k _ => b_anyI _)) (b_cons (b_arrI rfl (.inl rfl) (by decide) (fun k _ => b_anyI _)) b_nil))))))), rfl⟩
set_option maxHeartbeats 4000000 in
set_option maxRecDepth 100000 in
theorem b_X3 (γ : kΓ) (l : Launch) (h : Nat) : kM γ l yX3_init cX3_init 1 none ({ frames := 3, cells := 9, slots := 125, locals := 64 } : Room) [.ref h] [(h, .inr (3, [.null, .null, .null, .int 0, .int 0, .int 0]))] (bB γ gsP 37 3 h) := by
  refine k_imp (c_X3_init γ l h) (fun r w1 hq => ?_)
  obtain ⟨hs, hs_l, hs_c, hs_g, hs_r, hs_k, hs_b, hy, hq, ghs_l, ghs_c, ghs_g, ghs_r, ghs_k, ghs_b, ghy, ghq, rfl, rfl, f1, f2, f3, f4, f5, f6⟩ := hq
  exact ⟨rfl, [(37, h, .inr (3, [.ref hs, .ref hy, .ref hq, .int 0, .int 0, .int 0])), (30, hs, .inr (7, [.ref hs_l, .ref hs_c, .ref hs_g, .ref hs_r, .ref hs_k, .ref hs_b, .int 0, .int 0, .int 0])), (31, hs_l, .inl (γ.2.1 0, 5, .inl ghs_l)), (32, hs_c, .inl (γ.2.1 0, 5, .inl ghs_c)), (33, hs_g, .inl (γ.2.1 0, 5, .inl ghs_g)), (34, hs_r, .inl (γ.2.1 1, 5, .inr (.inl ghs_r))), (35, hs_k, .inl (γ.2.1 0, 40, .inl ghs_k)), (36, hs_b, .inl (γ.2.1 0, 8, .inl ghs_b)), (38, hy, .inl (γ.2.1 0, 40, .inl ghy)), (39, hq, .inl (γ.2.1 0, 8, .inl ghq))], _, _, rfl, rfl, fun M hM => (b_cons (b_obj (tys := [(2, 30, 0), (2, 38, 0), (2, 39, 0), (0, 0, 40), (0, 0, 8), (0, 0, 1)]) rfl rfl rfl (by decide) ⟨b_ref (hM _ (.tail _ (.head _))), b_ref (hM _ (.tail _ (.tail _ (.tail _ (.tail _ (.tail _ (.tail _ (.tail _ (.tail _ (.head _)))))))))), b_ref (hM _ (.tail _ (.tail _ (.tail _ (.tail _ (.tail _ (.tail _ (.tail _ (.tail _ (.tail _ (.head _))))))))))), b_int (by decide), b_int (by decide), b_int (by decide), trivial⟩) (b_cons (b_obj (tys := [(2, 31, 0), (2, 32, 0), (2, 33, 0), (2, 34, 0), (2, 35, 0), (2, 36, 0), (0, (-2147483648), 2147483647), (0, (-2147483648), 2147483647), (0, (-2147483648), 2147483647)]) rfl rfl rfl (by decide) ⟨b_ref (hM _ (.tail _ (.tail _ (.head _)))), b_ref (hM _ (.tail _ (.tail _ (.tail _ (.head _))))), b_ref (hM _ (.tail _ (.tail _ (.tail _ (.tail _ (.head _)))))), b_ref (hM _ (.tail _ (.tail _ (.tail _ (.tail _ (.tail _ (.head _))))))), b_ref (hM _ (.tail _ (.tail _ (.tail _ (.tail _ (.tail _ (.tail _ (.head _)))))))), b_ref (hM _ (.tail _ (.tail _ (.tail _ (.tail _ (.tail _ (.tail _ (.tail _ (.head _))))))))), b_int (by decide), b_int (by decide), b_int (by decide), trivial⟩) (b_cons (b_arrI rfl (.inl rfl) (by decide) (b_eqI f1 (by decide))) (b_cons (b_arrI rfl (.inl rfl) (by decide) (fun k _ => b_anyI _)) (b_cons (b_arrI rfl (.inl rfl) (by decide) (fun k _ => b_anyI _)) (b_cons (b_arrL rfl (by decide) (fun k _ => b_anyL _)) (b_cons (b_arrI rfl (.inl rfl) (by decide) (fun k _ => b_anyI _)) (b_cons (b_arrI rfl (.inl rfl) (by decide) (fun k _ => b_anyI _)) (b_cons (b_arrI rfl (.inl rfl) (by decide) (fun k _ => b_anyI _)) (b_cons (b_arrI rfl (.inl rfl) (by decide) (fun k _ => b_anyI _)) b_nil)))))))))), rfl⟩
set_option maxHeartbeats 4000000 in
set_option maxRecDepth 100000 in
theorem b_X0 (γ : kΓ) (l : Launch) (h : Nat) : kM γ l yX0_init cX0_init 1 none ({ frames := 1, cells := 8, slots := 1074, locals := 24 } : Room) [.ref h] [(h, .inr (0, [.null, .null, .null, .null, .null, .null, .null, .null, .int 0, .int 0, .int 0, .int 0, .int 0, .int 0, .int 0, .int 0, .int 0, .int 0, .int 0]))] (bB γ gsA 21 0 h) := by
  refine k_imp (c_X0_init γ l h) (fun r w1 hq => ?_)
  obtain ⟨a0, a1, a2, a3, a4, a5, a6, a7, rfl, rfl⟩ := hq
  exact ⟨rfl, [(21, h, .inr (0, [.ref a0, .ref a1, .ref a2, .ref a3, .ref a4, .ref a5, .ref a6, .ref a7, .int 0, .int 0, .int 10, .int 10, .int 3, .int 0, .int 0, .int 0, .int 0, .int 0, .int 0])), (22, a0, .inl (γ.2.1 1, 8, .inr (.inl (fun _ => 0)))), (23, a1, .inl (γ.2.1 0, 8, .inl (fun _ => 0))), (24, a2, .inl (γ.2.1 0, 8, .inl (fun _ => 0))), (25, a3, .inl (γ.2.1 0, 8, .inl (fun _ => 0))), (26, a4, .inl (γ.2.1 1, 5, .inr (.inl (fun _ => 0)))), (27, a5, .inl (γ.2.1 0, 5, .inl (fun _ => 0))), (28, a6, .inl (γ.2.1 0, 1000, .inl (fun _ => 0))), (29, a7, .inl (γ.2.1 0, 32, .inl (fun _ => 0)))], _, _, rfl, rfl, fun M hM => (b_cons (b_obj (tys := [(2, 22, 0), (2, 23, 0), (2, 24, 0), (2, 25, 0), (2, 26, 0), (2, 27, 0), (2, 28, 0), (2, 29, 0), (0, 0, 8), (0, 0, 5), (0, (-2147483648), 2147483647), (0, (-2147483648), 2147483647), (0, (-2147483648), 2147483647), (0, (-2147483648), 2147483647), (0, 0, 1000), (0, 0, 1000), (0, 0, 1000), (0, 0, 1000), (0, 0, 1000)]) rfl rfl rfl (by decide) ⟨b_ref (hM _ (.tail _ (.head _))), b_ref (hM _ (.tail _ (.tail _ (.head _)))), b_ref (hM _ (.tail _ (.tail _ (.tail _ (.head _))))), b_ref (hM _ (.tail _ (.tail _ (.tail _ (.tail _ (.head _)))))), b_ref (hM _ (.tail _ (.tail _ (.tail _ (.tail _ (.tail _ (.head _))))))), b_ref (hM _ (.tail _ (.tail _ (.tail _ (.tail _ (.tail _ (.tail _ (.head _)))))))), b_ref (hM _ (.tail _ (.tail _ (.tail _ (.tail _ (.tail _ (.tail _ (.tail _ (.head _))))))))), b_ref (hM _ (.tail _ (.tail _ (.tail _ (.tail _ (.tail _ (.tail _ (.tail _ (.tail _ (.head _)))))))))), b_int (by decide), b_int (by decide), b_int (by decide), b_int (by decide), b_int (by decide), b_int (by decide), b_int (by decide), b_int (by decide), b_int (by decide), b_int (by decide), b_int (by decide), trivial⟩) (b_cons (b_arrL rfl (by decide) (fun _ _ => by decide)) (b_cons (b_arrI rfl (.inl rfl) (by decide) (fun _ _ => by decide)) (b_cons (b_arrI rfl (.inl rfl) (by decide) (fun _ _ => by decide)) (b_cons (b_arrI rfl (.inl rfl) (by decide) (fun _ _ => by decide)) (b_cons (b_arrL rfl (by decide) (fun _ _ => by decide)) (b_cons (b_arrI rfl (.inl rfl) (by decide) (fun _ _ => by decide)) (b_cons (b_arrI rfl (.inl rfl) (by decide) (fun _ _ => by decide)) (b_cons (b_arrI rfl (.inl rfl) (by decide) (fun _ _ => by decide)) b_nil))))))))), rfl⟩
def bC (γ : kΓ) (h : Nat) (r : Option Value) (w1 : va_W) : Prop := r = none ∧ ∃ (hs : Nat) (Z : bZ) (fs : List Value) (Z2 : bZ), w1 = [(h, .inr (2, [.ref hs, .int 0, .int 0, .int 0, .long 0]))] ++ Z.map Prod.snd ∧ Z.map Prod.fst = gs7 ∧ bCl cD γ Z ∧ Z = (30, hs, .inr (7, fs)) :: Z2
set_option maxHeartbeats 4000000 in
set_option maxRecDepth 100000 in
theorem b_X2 (γ : kΓ) (l : Launch) (h : Nat) : kM γ l yX2_init cX2_init 1 none ({ frames := 3, cells := 7, slots := 77, locals := 64 } : Room) [.ref h] [(h, .inr (2, [.null, .int 0, .int 0, .int 0, .long 0]))] (bC γ h) := by
  refine k_imp (c_X2_init γ l h) (fun r w1 hq => ?_)
  obtain ⟨hs, hs_l, hs_c, hs_g, hs_r, hs_k, hs_b, ghs_l, ghs_c, ghs_g, ghs_r, ghs_k, ghs_b, rfl, rfl, f1, f2, f3, f4, f5, f6⟩ := hq
  exact ⟨rfl, hs, [(30, hs, .inr (7, [.ref hs_l, .ref hs_c, .ref hs_g, .ref hs_r, .ref hs_k, .ref hs_b, .int 0, .int 0, .int 0])), (31, hs_l, .inl (γ.2.1 0, 5, .inl ghs_l)), (32, hs_c, .inl (γ.2.1 0, 5, .inl ghs_c)), (33, hs_g, .inl (γ.2.1 0, 5, .inl ghs_g)), (34, hs_r, .inl (γ.2.1 1, 5, .inr (.inl ghs_r))), (35, hs_k, .inl (γ.2.1 0, 40, .inl ghs_k)), (36, hs_b, .inl (γ.2.1 0, 8, .inl ghs_b))], _, _, rfl, rfl, fun M hM => (b_cons (b_obj (tys := [(2, 31, 0), (2, 32, 0), (2, 33, 0), (2, 34, 0), (2, 35, 0), (2, 36, 0), (0, (-2147483648), 2147483647), (0, (-2147483648), 2147483647), (0, (-2147483648), 2147483647)]) rfl rfl rfl (by decide) ⟨b_ref (hM _ (.tail _ (.head _))), b_ref (hM _ (.tail _ (.tail _ (.head _)))), b_ref (hM _ (.tail _ (.tail _ (.tail _ (.head _))))), b_ref (hM _ (.tail _ (.tail _ (.tail _ (.tail _ (.head _)))))), b_ref (hM _ (.tail _ (.tail _ (.tail _ (.tail _ (.tail _ (.head _))))))), b_ref (hM _ (.tail _ (.tail _ (.tail _ (.tail _ (.tail _ (.tail _ (.head _)))))))), b_int (by decide), b_int (by decide), b_int (by decide), trivial⟩) (b_cons (b_arrI rfl (.inl rfl) (by decide) (b_eqI f1 (by decide))) (b_cons (b_arrI rfl (.inl rfl) (by decide) (fun k _ => b_anyI _)) (b_cons (b_arrI rfl (.inl rfl) (by decide) (fun k _ => b_anyI _)) (b_cons (b_arrL rfl (by decide) (fun k _ => b_anyL _)) (b_cons (b_arrI rfl (.inl rfl) (by decide) (fun k _ => b_anyI _)) (b_cons (b_arrI rfl (.inl rfl) (by decide) (fun k _ => b_anyI _)) b_nil))))))), rfl⟩

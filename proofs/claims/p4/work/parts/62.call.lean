/-! contracts, calls -/
abbrev qFa : Type := Nat × Nat × Int × Int
abbrev qAlt : Type := Option qTy × List qFa × List (Nat × Int × Int) × List (Nat × Nat × Int) × Option (Nat × Nat)
abbrev qCon : Type := (Nat × Nat × Nat) × List qTy × List qFa × List (Nat × Nat × Int) × List qAlt × qMods
def qval (ws : va_W) (f : qFa) : Option Int := match ws[f.1]? with
  | some c => (match qrd c.2 f.2.1 with
    | some (.int x) => some x.toInt
    | _ => none)
  | none => none
def qPre (D : qWd) (γ : kΓ) (X : va_W → Prop) (c : qCon) (adr : List Nat) (ws : va_W) (av : List Value) : Prop :=
  qH D γ adr (fun _ _ => False) ws ∧ X ws ∧ F2 (qvT D γ adr) c.2.1 av ∧ (∀ f ∈ c.2.2.1, ∃ x, qval ws f = some x ∧ qIn f.2.2 x) ∧
  (∀ r ∈ c.2.2.2.1, ∃ x y, (c.2.2.1[r.1]?).bind (qval ws) = some x ∧ (c.2.2.1[r.2.1]?).bind (qval ws) = some y ∧ y + r.2.2 ≤ x)
def qpv (pre facts : List qFa) (ws w1 : va_W) (av : List Value) (i : Nat) : Option Int := if i < pre.length then (pre[i]?).bind (qval ws) else if i < pre.length + facts.length then (facts[i - pre.length]?).bind (qval w1) else (match av[i - (pre.length + facts.length)]? with
  | some (.int x) => some x.toInt
  | _ => none)
def qalt (D : qWd) (γ : kΓ) (c : qCon) (adr : List Nat) (ws : va_W) (av : List Value) (r : Option Value) (w1 : va_W) (t : qAlt) : Prop :=
  (t.1 = none ∧ r = none ∨ ∃ ty v, t.1 = some ty ∧ r = some v ∧ qvT D γ adr ty v) ∧ (∀ f ∈ t.2.1, ∃ x, qval w1 f = some x ∧ qIn f.2.2 x) ∧ (∀ q ∈ t.2.2.1, ∃ x : Int32, av[q.1]? = some (.int x) ∧ qIn q.2 x.toInt) ∧
  (∀ q ∈ t.2.2.2.1, ∃ x y, qpv c.2.2.1 t.2.1 ws w1 av q.1 = some x ∧ qpv c.2.2.1 t.2.1 ws w1 av q.2.1 = some y ∧ y + q.2.2 ≤ x) ∧
  (∀ q, t.2.2.2.2 = some q → ∃ (a : Nat) (ce : va_E) (x y : Int32), w1[q.1]? = some (a, ce) ∧ av[q.2]? = some (.int x) ∧ 0 ≤ x.toInt ∧ r = some (.int y) ∧ qrd ce x.toNatClampNeg = some (.int y))
def qPost (D : qWd) (γ : kΓ) (X : va_W → Prop) (c : qCon) (adr : List Nat) (ws : va_W) (av : List Value) (r : Option Value) (w1 : va_W) : Prop :=
  qH D γ adr (fun _ _ => False) w1 ∧ X w1 ∧ qK D c.2.2.2.2.2 ws w1 ∧ ∃ t ∈ c.2.2.2.2.1, qalt D γ c adr ws av r w1 t
abbrev qMt : Type := MethodName × ByteArray × Nat × Option FieldType
def qSem (γ : kΓ) (l : Launch) (D : qWd) (X : va_W → Prop) (MT : List qMt) (c : qCon) : Prop :=
  ∃ y, MT[c.1.1]? = some y ∧ ∀ (adr : List Nat) (ws : va_W) (av : List Value), qPre D γ X c adr ws av → kM γ l y.1 y.2.1 y.2.2.1 y.2.2.2 { frames := c.1.2.1, cells := 0, slots := 0, locals := c.1.2.2 } av ws (qPost D γ X c adr ws av)
/-- a call's row: index, kind (0 virtual, 1 static, 2 virtual of a nest mate, 3 static of one), method, number of arguments, class of the receiver -/
abbrev qCl : Type := Nat × Nat × Nat × Nat × Nat
def qlk (own : String) (MT : List qMt) (k : qCl) : Prop := ∃ y, MT[k.2.2.1]? = some y ∧ Cond.initialized y.1.cls ∈ kG ∧ Cond.code y.1 y.2.1 y.2.2.1 y.2.2.2 ∈ kG ∧
  (y.1.cls ≠ "java/lang/invoke/MethodHandle" ∧ y.1.cls ≠ "java/lang/invoke/VarHandle" ∧ (parseMethodDescriptor y.1.desc).map (fun d => d.parameters.length) = some k.2.2.2.1) ∧
  ((k.2.1 = 0 ∧ Cond.methodLink own k.1 y.1 ∈ kG ∧ Cond.instanceMethod y.1 ∈ kG ∧ Cond.selects y.1.cls y.1 y.1 ∈ kG ∧ ∃ T N, vwCl[k.2.2.2.2]? = some (y.1.cls, T, N)) ∨
   (k.2.1 = 1 ∧ Cond.methodLink own k.1 y.1 ∈ kG ∧ Cond.static y.1 ∈ kG) ∨
   (k.2.1 = 2 ∧ (∃ host, Cond.methodLinkNest own k.1 y.1 host ∈ kN) ∧ Cond.instanceMethod y.1 ∈ kG ∧ Cond.selects y.1.cls y.1 y.1 ∈ kG ∧ ∃ T N, vwCl[k.2.2.2.2]? = some (y.1.cls, T, N)) ∨
   (k.2.1 = 3 ∧ (∃ host, Cond.methodLinkNest own k.1 y.1 host ∈ kN) ∧ Cond.static y.1 ∈ kG))
theorem q_nd : ∀ n : Nat, va_nd (List.range n) = true := by
  have key : ∀ l : List Nat, l.Nodup → va_nd l = true := by
    intro l
    induction l with
    | nil => intro _; rfl
    | cons a l ih =>
      intro h
      rw [List.nodup_cons] at h
      simp [va_nd, h.1, ih h.2]
  exact fun n => key _ List.nodup_range
theorem q_all (ws : va_W) : (List.range ws.length).map (fun i => ws[i]?) = ws.map some := by
  apply List.ext_getElem?
  intro i
  rw [List.getElem?_map, List.getElem?_map]
  by_cases h : i < ws.length
  · rw [List.getElem?_range h, List.getElem?_eq_getElem h]; simp [h]
  · rw [List.getElem?_eq_none (by simpa using h), List.getElem?_eq_none (by simpa using h)]; rfl
section QC
variable {γ : kΓ} {p : Program} {l : Launch} {e : Env} {R : Room} {s : State} {m : MethodId} {args : Array Value} {below : List Frame} {meth : Method} {c : Code} {H : Heap} {locs : List Loc} {Q : State → Prop}
variable {cc : ByteArray} {nL pc : Nat} {own : String} {A : Nat → Prop} {ws : va_W} {ls : Array Slot} {rest : List Value}
theorem k_callG (hC : kC γ p s m args c cc nL own A) (hw : kW γ A ws s H locs) {MT : List qMt} {k : qCl} (hk : qlk own MT k) {y : qMt} (hy : MT[k.2.2.1]? = some y) {fr lc : Nat} {av As : List Value} {post : Option Value → va_W → Prop} (hM : kM γ l y.1 y.2.1 y.2.2.1 y.2.2.2 { frames := fr, cells := 0, slots := 0, locals := lc } av ws post)
    (hR : fr + 1 ≤ R.frames ∧ 8 + (y.2.2.1 + 11) + lc ≤ R.locals) (hml : ls.size = nL) (hn : As.length = k.2.2.2.1) {st0 : List Value} (hW : (rest.map fun v => v.category).sum ≤ 8)
    (hst : ((k.2.1 = 0 ∨ k.2.1 = 2) ∧ ∃ (b q : Nat) (fs : List Value), av = .ref b :: As ∧ ws[q]? = some (b, .inr (k.2.2.2.2, fs)) ∧ st0 = As.reverse ++ .ref b :: rest) ∨ ((k.2.1 = 1 ∨ k.2.1 = 3) ∧ av = As ∧ st0 = As.reverse ++ rest))
    (hdg : ((k.2.1 = 0 ∨ k.2.1 = 2) ∧ decode cc pc = .ok (.invokevirtual k.1, 3)) ∨ ((k.2.1 = 1 ∨ k.2.1 = 3) ∧ decode cc pc = .ok (.invokestatic k.1, 3)))
    (kk : ∀ (r : Option Value) (w1 : va_W) (H1 : Heap) (locs1 : List Loc), post r w1 → kW γ A w1 s H1 locs1 → W p l e R s m args below meth c H1 locs1 0 0 Q (F0 m (pc + 3) ls (r.toList ++ rest))) : W p l e R s m args below meth c H locs 0 0 Q (F0 m pc ls st0) := by
  obtain ⟨y', hy', hz, hcode, hd, hkind⟩ := hk
  rw [hy] at hy'
  cases hy'
  have kk' : ∀ (r : Option Value) (w1 : va_W) (H1 : Heap) (locs1 : List Loc), post r w1 → kW γ A ([] ++ w1) s H1 locs1 → W p l e R s m args below meth c H1 locs1 (0 + 0) (0 + 0) Q (F0 m (pc + 3) ls (r.toList ++ rest)) := kk
  have e1 := q_all ws
  have e2 := q_nd ws.length
  rcases hkind with ⟨k0, h1, h2, h3, T, N, h4⟩ | ⟨k0, h1, h2⟩ | ⟨k0, ⟨host, h1⟩, h2, h3, T, N, h4⟩ | ⟨k0, ⟨host, h1⟩, h2⟩
  · rcases hst with ⟨-, b, q, fs, rfl, hb, rfl⟩ | ⟨k1, -⟩
    · rcases hdg with ⟨-, hdg⟩ | ⟨k1, -⟩
      · exact k_V (wr := []) k.2.2.2.1 h1 h2 h3 hz hcode hd hC hw hM hR ⟨Nat.zero_le _, Nat.zero_le _⟩ hml hn q hb h4 rfl hW (List.range ws.length) [] e2 e1 rfl rfl (fun _ h => by cases h) hdg kk'
      · omega
    · omega
  · rcases hst with ⟨k1, -⟩ | ⟨-, rfl, rfl⟩
    · omega
    · rcases hdg with ⟨k1, -⟩ | ⟨-, hdg⟩
      · omega
      · exact k_S (wr := []) k.2.2.2.1 h1 h2 hz hcode hd hC hw hM hR ⟨Nat.zero_le _, Nat.zero_le _⟩ hml hn rfl hW (List.range ws.length) [] e2 e1 rfl rfl (fun _ h => by cases h) hdg kk'
  · rcases hst with ⟨-, b, q, fs, rfl, hb, rfl⟩ | ⟨k1, -⟩
    · rcases hdg with ⟨-, hdg⟩ | ⟨k1, -⟩
      · exact k_VN (wr := []) k.2.2.2.1 h1 h2 h3 hz hcode hd hC hw hM hR ⟨Nat.zero_le _, Nat.zero_le _⟩ hml hn q hb h4 rfl hW (List.range ws.length) [] e2 e1 rfl rfl (fun _ h => by cases h) hdg kk'
      · omega
    · omega
  · rcases hst with ⟨k1, -⟩ | ⟨-, rfl, rfl⟩
    · omega
    · rcases hdg with ⟨k1, -⟩ | ⟨-, hdg⟩
      · omega
      · exact k_SN (wr := []) k.2.2.2.1 h1 h2 hz hcode hd hC hw hM hR ⟨Nat.zero_le _, Nat.zero_le _⟩ hml hn rfl hW (List.range ws.length) [] e2 e1 rfl rfl (fun _ h => by cases h) hdg kk'
end QC

/-! fields and arrays -/
def FldOk (own : String) (idx ci k : Nat) (ft : FieldType) : Prop := ∃ (C : String) (T : u_T) (N : Nat) (ty0 : Nat → FieldType), (∀ w ∈ u_ws C T N, w ∈ kG) ∧ (Cond.fieldLink own idx (T k).1 (T k).2.1 (T k).2.2.1 ∈ kG ∨ ∃ host, Cond.fieldLinkNest own idx (T k).1 (T k).2.1 (T k).2.2.1 host ∈ kN) ∧ vwCl[ci]? = some (C, T, N) ∧ k < N ∧
  (∀ k, k < N → parseFieldDescriptor (T k).2.2.1 = some (ty0 k)) ∧ (∀ a, a < N → ∀ b, b < N → a ≠ b → (T a).2.1 ≠ (T b).2.1) ∧ ty0 k = ft
def FldW (own : String) (idx ci k : Nat) : Prop := ∀ (C : String) (T : u_T) (N : Nat), vwCl[ci]? = some (C, T, N) → (T k).2.2.2 = false
/-- a field's row: index, class, place, 0 int 1 long 2 boolean 3 reference, may it be written -/
abbrev qFd : Type := Nat × Nat × Nat × Nat × Bool
def qft (own : String) (f : qFd) : Prop := ∃ ft : FieldType, FldOk own f.1 f.2.1 f.2.2.1 ft ∧ (f.2.2.2.1 = 0 → ft = .int) ∧ (f.2.2.2.1 = 1 → ft = .long) ∧ (f.2.2.2.1 = 2 → ft = .boolean) ∧ (f.2.2.2.1 = 3 → ∃ C, ft = .object C ∨ ∃ u, ft = .array u) ∧ (f.2.2.2.2 = true → FldW own f.1 f.2.1 f.2.2.1)
section QF
variable {γ : kΓ} {p : Program} {l : Launch} {e : Env} {R : Room} {s : State} {m : MethodId} {args : Array Value} {below : List Frame} {meth : Method} {c : Code} {H : Heap} {locs : List Loc} {cells slots : Nat} {Q : State → Prop}
variable {cc : ByteArray} {nL pc : Nat} {own : String} {A : Nat → Prop} {ws : va_W} {ls : Array Slot} {rest : List Value}
theorem k_getG (hC : kC γ p s m args c cc nL own A) (hw : kW γ A ws s H locs) {idx ci k : Nat} {ft : FieldType} (hf : FldOk own idx ci k ft) (q0 : Nat) {a : Nat} {fs : List Value} (he : ws[q0]? = some (a, .inr (ci, fs))) {v : Value} (hv : fs[k]? = some v) (hdg : decode cc pc = .ok (.getfield idx, 3))
    (kk : W p l e R s m args below meth c H locs cells slots Q (F0 m (pc + 3) ls (v :: rest))) : W p l e R s m args below meth c H locs cells slots Q (F0 m pc ls (.ref a :: rest)) := by
  obtain ⟨C, T, N, ty0, h1, h2, h3, h4, h5, h6, h7⟩ := hf
  rcases h2 with h2 | ⟨host, h2⟩
  · exact k_get hC hw h1 h2 h3 h4 q0 he hv hdg kk
  · exact k_getN hC hw h1 h2 h3 h4 q0 he hv hdg kk
theorem k_putG (hC : kC γ p s m args c cc nL own A) (hw : kW γ A ws s H locs) {idx ci k : Nat} {ft : FieldType} (hf : FldOk own idx ci k ft) (hfw : FldW own idx ci k) (q0 : Nat) {a : Nat} {fs : List Value} (he : ws[q0]? = some (a, .inr (ci, fs))) {v : Value} (hn : narrow ft v = v) (hfit : fits ft v = true) (hl : k < fs.length) (hdg : decode cc pc = .ok (.putfield idx, 3))
    (kk : ∀ (H1 : Heap) (locs1 : List Loc), kW γ A (ws.set q0 (a, .inr (ci, fs.set k v))) s H1 locs1 → W p l e R s m args below meth c H1 locs1 cells slots Q (F0 m (pc + 3) ls rest)) : W p l e R s m args below meth c H locs cells slots Q (F0 m pc ls (v :: .ref a :: rest)) := by
  obtain ⟨C, T, N, ty0, h1, h2, h3, h4, h5, h6, h7⟩ := hf
  subst h7
  rcases h2 with h2 | ⟨host, h2⟩
  · exact k_put hC hw h1 ty0 h5 h6 h2 h3 h4 (hfw C T N h3) q0 he hn hfit hl hdg kk
  · exact k_putN hC hw h1 ty0 h5 h6 h2 h3 h4 (hfw C T N h3) q0 he hn hfit hl hdg kk
end QF
def qs_get (D : qWd) (fds : List qFd) (S : AS) (idx pc : Nat) : Option qSu :=
  match S.2.1.2, fds.find? (fun f => f.1 == idx) with
  | a :: stk, some f => if a.1 == 3 then (match qrg D S.2.2 a.2.1 with
    | some g => if g == qWR then none else (match D.2.1[g]? with
      | some r => if r.1 == 10 + f.2.1 && Nat.blt f.2.2.1 r.2.1 then (match qrs D S.1 S.2.2 a.2.1 f.2.2.1 r with
        | some z => some [((z.1, (S.2.1.1, z.2.2 :: stk), z.2.1), pc + 3)]
        | none => none) else none
      | none => none)
    | none => none) else none
  | _, _ => none
theorem q_obj {γ : kΓ} {r : qRT} {c : va_E} (h : qsh γ r c) {ci : Nat} (hr : r.1 = 10 + ci) : ∃ fs : List Value, c = .inr (ci, fs) ∧ fs.length = r.2.1 := by
  cases c with
  | inr o =>
    obtain ⟨ci', fs⟩ := o
    obtain ⟨h1, h2⟩ := h
    simp only at h1 h2
    have : ci' = ci := by omega
    subst this
    exact ⟨fs, rfl, h2⟩
  | inl a =>
    obtain ⟨-, -, -, h4⟩ := h
    split at h4
    · omega
    · omega
    · omega
    · exact h4.elim
theorem qs_getG {x : qCx} (hB : qB x) (hD : qD x.2.2.2.2.2.2.2.2.2.2.2.2.2.2.1) {fds : List qFd} (hfd : ∀ f ∈ fds, qft x.2.2.2.2.2.2.2.2.2.2.2.2.1.2.2 f) {S : AS} {idx pc : Nat} {L : qSu} (hs : qs_get x.2.2.2.2.2.2.2.2.2.2.2.2.2.2.1 fds S idx pc = some L) (hdc : qdc x pc (.getfield idx, 3)) (h : qOk x L) : qG x S pc := by
  obtain ⟨γ, p, l, e, R, s, m, args, below, meth, c, Q, ⟨cc, nL', own⟩, A, D, adr, X, ms, w0, σe⟩ := x
  simp only at hD hfd hs
  obtain ⟨N, ⟨loc, stk⟩, M⟩ := S
  unfold qs_get at hs
  split at hs
  · rename_i a stk' f heq hf
    simp only at heq
    subst heq
    split at hs
    · rename_i ha
      simp only [beq_iff_eq] at ha
      split at hs
      · rename_i g hg
        split at hs
        · cases hs
        · rename_i hne
          split at hs
          · rename_i r hr
            split at hs
            · rename_i hc
              simp only [Bool.and_eq_true, beq_iff_eq, Nat.blt_eq] at hc
              split at hs
              · rename_i z hz
                cases hs
                have hG := qOk1 h
                obtain ⟨ft, hfo, -⟩ := hfd f (List.mem_of_find?_eq_some hf)
                have hfi := List.find?_some hf
                simp only [beq_iff_eq] at hfi
                intro σ ρ lv st ls ws H locs hw hl hS
                obtain ⟨h1, h2, h3, h4, h5, h6⟩ := hS
                match st, h2.2 with
                | v0 :: st, ⟨hra, hst⟩ =>
                obtain ⟨b, rfl, hb⟩ := q_rfv hra ha
                obtain ⟨q, cl, r', g1, g2, g3, g4, g5⟩ := q_cell hD h3 hg (by simpa using hne) hb
                rw [hr] at g3
                cases g3
                obtain ⟨fs, rfl, hfs⟩ := q_obj g4 hc.1
                obtain ⟨σ', ρ', v, s1, s2, s3, s4, s5, s6⟩ := q_rs hD h1 h3 hw.2.1.1 g2 hb g5 hc.2 hz
                have hF := h2.mono s1 s2
                rw [hfi] at hfo
                refine k_getG hB hw hfo q g2 (v := v) s5 hdc ?_
                exact hG σ' ρ' lv (v :: st) ls ws H locs hw hl ⟨s3, ⟨hF.1, s6, hF.2.2⟩, s4, h4, h5, fun v x hv => s1 v x (h6 v x hv)⟩
              · cases hs
            · cases hs
          · cases hs
      · cases hs
    · cases hs
  · cases hs
/-- a write of slot k of what n names: the memory behind it -/
def qwr (D : qWd) (ms : qMods) (xr : List Nat) (N : qN) (M : qM) (n g k : Nat) (r : qRT) (a : AV) : Option qM :=
  if ms.any (fun m => m.1 == g && Nat.ble m.2.1 k && Nat.ble k m.2.2) && !(xr.contains g) && !(qrg D M n == some qWR) && Nat.blt k 10000 then
    (if qtk D N M a (qsg r.2.2 k) then some (M.1, (n, k, a) :: (qcl D M g k k).2.1, M.2.2.filter (fun e => !(e.1 == n && e.2 == k)))
     else if n < D.2.2 && Nat.blt r.1 6 && qint a then some (M.1, (n, k, a) :: (qcl D M g k k).2.1, (n, k) :: M.2.2) else none)
  else none
section QP
variable {D : qWd} {γ : kΓ} {adr : List Nat} {σ : qσ} {ρ : qρ} {M : qM} {ws : va_W}
theorem q_wrS (hD : qD D) {N : qN} (hN : qsN D σ N) (hH : qsM D γ adr σ ρ M ws) (hdis : ∀ (i j : Nat) (p q : Nat × va_E), ws[i]? = some p → ws[j]? = some q → p.1 = q.1 → i = j) {ms : qMods} {xr : List Nat} {w0 : va_W} {X : va_W → Prop} (hX : ∀ (ws : va_W) (q g a : Nat) (c : va_E), D.1[q]? = some g → ¬ g ∈ xr → ws.map Prod.fst = adr → adr[q]? = some a → X ws → X (ws.set q (a, c))) (hx : X ws) (hK : qK D ms w0 ws)
    {n g k q a : Nat} {r : qRT} {av : AV} {v v' : Value} {c c' : va_E} (hg : D.1[q]? = some g) (hr : D.2.1[g]? = some r) (hc : ws[q]? = some (a, c)) (ha : ρ n = some a) (hv : qR σ ρ av v) (hs : qsame γ r c c' k k) (hv' : qrd c' k = some v') (hvv : v' = v) {M' : qM} (hz : qwr D ms xr N M n g k r av = some M') :
    qsM D γ adr σ ρ M' (ws.set q (a, c')) ∧ X (ws.set q (a, c')) ∧ qK D ms w0 (ws.set q (a, c')) := by
  subst hvv
  unfold qwr at hz
  split at hz
  · rename_i h1
    simp only [Bool.and_eq_true, Bool.not_eq_true'] at h1
    obtain ⟨⟨⟨h1, h2⟩, h3⟩, hk10⟩ := h1
    rw [Nat.blt_eq] at hk10
    have hq : q < ws.length := (List.getElem?_eq_some_iff.mp hc).1
    have hX' : X (ws.set q (a, c')) := hX ws q g a c' hg (by simpa using h2) hH.2.2.2.2.1 (q_adr2 hH hc) hx
    have hK' : qK D ms w0 (ws.set q (a, c')) := q_keep hK hg hc hs.2 h1
    refine ⟨?_, hX', hK'⟩
    split at hz
    · rename_i ht
      cases hz
      have := q_wr hD hH hdis hg hr hc hs (ex' := M.2.2.filter (fun e => !(e.1 == n && e.2 == k))) (fun a' k' ⟨n', z1, z2⟩ hn => ⟨n', List.mem_filter.mpr ⟨z1, by
          simp only [Bool.not_eq_true', Bool.and_eq_false_iff, beq_eq_false_iff_ne, ne_eq]
          by_cases e1 : n' = n
          · subst e1
            rw [ha] at z2
            cases z2
            refine .inr (fun e2 => hn ⟨rfl, by omega, by omega⟩)
          · exact .inl e1⟩, z2⟩) (fun k' _ k1 k2 => .inr (by
          have : k' = k := by omega
          subst this
          exact ⟨_, hv', q_tk hD hN hH hv ht⟩))
      exact q_addm this hk10 (List.getElem?_set_self hq) ha hv' hv
    · split at hz
      · cases hz
        have := q_wr hD hH hdis hg hr hc hs (ex' := (n, k) :: M.2.2) (fun a' k' ⟨n', z1, z2⟩ _ => ⟨n', List.mem_cons_of_mem _ z1, z2⟩) (fun k' _ k1 k2 => .inl (by
          have : k' = k := by omega
          subst this
          exact ⟨n, List.mem_cons_self, ha⟩))
        exact q_addm this hk10 (List.getElem?_set_self hq) ha hv' hv
      · cases hz
  · cases hz
end QP
/-- may a value be put into a field -/
def qpf (N : qN) (ft : Nat) (a : AV) : Bool :=
  match ft with
  | 0 => qint a
  | 1 => a.1 == 2
  | 2 => (match qiv N a with
    | some p => qle 0 p.1 && qle p.2 1
    | none => false)
  | 3 => a.1 == 3
  | _ => false
theorem q_pf {D : qWd} {σ : qσ} {ρ : qρ} {N : qN} (hN : qsN D σ N) {a : AV} {v : Value} (hr : qR σ ρ a v) {ft : Nat} (h : qpf N ft a = true) {ty : FieldType} (h0 : ft = 0 → ty = .int) (h1 : ft = 1 → ty = .long) (h2 : ft = 2 → ty = .boolean) (h3 : ft = 3 → ∃ C, ty = .object C ∨ ∃ u, ty = .array u) : narrow ty v = v ∧ fits ty v = true := by
  unfold qpf at h
  split at h
  · obtain ⟨z, rfl⟩ := q_int hr h
    rw [h0 rfl]; exact ⟨rfl, rfl⟩
  · obtain ⟨z, rfl⟩ := q_lng hr (by simpa using h)
    rw [h1 rfl]; exact ⟨rfl, rfl⟩
  · split at h
    · rename_i p hp
      simp only [qle, Bool.and_eq_true, decide_eq_true_eq] at h
      obtain ⟨x, rfl, hx⟩ := q_iv hN hr hp
      rw [h2 rfl]
      have : x = 0 ∨ x = 1 := by
        have h8 : x.toInt = 0 ∨ x.toInt = 1 := by have := hx.1; have := hx.2; omega
        rcases h8 with h8 | h8
        · exact .inl (Int32.toInt_inj.mp (by simpa using h8))
        · exact .inr (Int32.toInt_inj.mp (by simpa using h8))
      rcases this with rfl | rfl
      · exact ⟨rfl, rfl⟩
      · exact ⟨rfl, rfl⟩
    · cases h
  · obtain ⟨z, rfl, -⟩ := q_rfv hr (by simpa using h)
    obtain ⟨C, h4 | ⟨u, h4⟩⟩ := h3 rfl
    · rw [h4]; exact ⟨rfl, rfl⟩
    · rw [h4]; exact ⟨rfl, rfl⟩
  · cases h
def qs_put (D : qWd) (ms : qMods) (xr : List Nat) (fds : List qFd) (S : AS) (idx pc : Nat) : Option qSu :=
  match S.2.1.2, fds.find? (fun f => f.1 == idx) with
  | v :: a :: stk, some f => if a.1 == 3 && f.2.2.2.2 && qpf S.1 f.2.2.2.1 v then (match qrg D S.2.2 a.2.1 with
    | some g => if g == qWR then none else (match D.2.1[g]? with
      | some r => if r.1 == 10 + f.2.1 && Nat.blt f.2.2.1 r.2.1 then (match qwr D ms xr S.1 S.2.2 a.2.1 g f.2.2.1 r v with
        | some M' => some [((S.1, (S.2.1.1, stk), M'), pc + 3)]
        | none => none) else none
      | none => none)
    | none => none) else none
  | _, _ => none
theorem q_sameO {γ : kΓ} {r : qRT} {ci k : Nat} {fs : List Value} {v : Value} (h : qsh γ r (.inr (ci, fs))) : qsame γ r (.inr (ci, fs)) (.inr (ci, fs.set k v)) k k := by
  refine ⟨⟨h.1, by simp only [List.length_set]; exact h.2⟩, fun j hj => ?_⟩
  show (fs.set k v)[j]? = fs[j]?
  rw [List.getElem?_set_ne (by omega)]
def qxok (x : qCx) (xr : List Nat) : Prop :=
  match x with
  | (_, _, _, _, _, _, _, _, _, _, _, _, _, _, D, adr, X, _, _, _) => ∀ (ws : va_W) (q g a : Nat) (c : va_E), D.1[q]? = some g → ¬ g ∈ xr → ws.map Prod.fst = adr → adr[q]? = some a → X ws → X (ws.set q (a, c))
theorem qs_putG {x : qCx} (hB : qB x) {D : qWd} (eD : x.2.2.2.2.2.2.2.2.2.2.2.2.2.2.1 = D) (hD : qD D) {ms : qMods} (ems : x.2.2.2.2.2.2.2.2.2.2.2.2.2.2.2.2.2.1 = ms) {xr : List Nat} (hX : qxok x xr) {fds : List qFd} (hfd : ∀ f ∈ fds, qft x.2.2.2.2.2.2.2.2.2.2.2.2.1.2.2 f) {S : AS} {idx pc : Nat} {L : qSu} (hs : qs_put D ms xr fds S idx pc = some L) (hdc : qdc x pc (.putfield idx, 3)) (h : qOk x L) : qG x S pc := by
  obtain ⟨γ, p, l, e, R, s, m, args, below, meth, c, Q, ⟨cc, nL', own⟩, A, D', adr, X, ms', w0, σe⟩ := x
  simp only at eD ems hfd
  subst eD
  subst ems
  obtain ⟨N, ⟨loc, stk⟩, M⟩ := S
  unfold qs_put at hs
  split at hs
  · rename_i v a stk' f heq hf
    simp only at heq
    subst heq
    split at hs
    · rename_i ha
      simp only [Bool.and_eq_true, beq_iff_eq] at ha
      obtain ⟨⟨ha, hfw⟩, hpf⟩ := ha
      split at hs
      · rename_i g hg
        split at hs
        · cases hs
        · rename_i hne
          split at hs
          · rename_i r hr
            split at hs
            · rename_i hc
              simp only [Bool.and_eq_true, beq_iff_eq, Nat.blt_eq] at hc
              split at hs
              · rename_i M' hz
                cases hs
                have hG := qOk1 h
                obtain ⟨ft, hfo, t0, t1, t2, t3, t4⟩ := hfd f (List.mem_of_find?_eq_some hf)
                have hfi := List.find?_some hf
                simp only [beq_iff_eq] at hfi
                intro σ ρ lv st ls ws H locs hw hl hS
                obtain ⟨h1, h2, h3, h4, h5, h6⟩ := hS
                match st, h2.2 with
                | vv :: v0 :: st, ⟨hrv, hra, hst⟩ =>
                obtain ⟨b, rfl, hb⟩ := q_rfv hra ha
                obtain ⟨q, cl, r', g1, g2, g3, g4, g5⟩ := q_cell hD h3 hg (by simpa using hne) hb
                rw [hr] at g3
                cases g3
                obtain ⟨fs, rfl, hfs⟩ := q_obj g4 hc.1
                obtain ⟨n1, n2⟩ := q_pf h1 hrv hpf t0 t1 t2 t3
                have hW := t4 hfw
                rw [hfi] at hfo hW
                have hlen : f.2.2.1 < fs.length := by rw [hfs]; exact hc.2
                refine k_putG hB hw hfo hW q g2 n1 n2 hlen hdc (fun H1 locs1 hw1 => ?_)
                obtain ⟨w1, w2, w3⟩ := q_wrS hD h1 h3 hw.2.1.1 hX h4 h5 g1 hr g2 hb hrv (q_sameO (v := vv) g4) (List.getElem?_set_self hlen) rfl hz
                exact hG σ ρ lv st ls _ H1 locs1 hw1 hl ⟨h1, ⟨h2.1, hst⟩, w1, w2, w3, h6⟩
              · cases hs
            · cases hs
          · cases hs
      · cases hs
    · cases hs
  · cases hs

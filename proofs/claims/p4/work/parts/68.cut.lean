/-! returns and cuts -/
theorem q_H0 {D : qWd} (hD : qD D) {γ : kΓ} {adr : List Nat} {σ : qσ} {ρ : qρ} {N : qN} {M : qM} {ws : va_W} (hN : qsN D σ N) (hH : qsM D γ adr σ ρ M ws) (hdis : ∀ (i j : Nat) (p q : Nat × va_E), ws[i]? = some p → ws[j]? = some q → p.1 = q.1 → i = j) (hex : (qclr D N M).2.2.isEmpty = true) : qH D γ adr (fun _ _ => False) ws := by
  have h3' := q_clr hD hN hH hdis
  have hex : (qclr D N M).2.2 = [] := by simpa using hex
  refine ⟨hH.2.2.2.2.1, hH.2.2.2.2.2.1, fun q g a c hg hc => ?_⟩
  obtain ⟨r, r1, r2, r3⟩ := h3'.2.2.2.2.2.2 q g a c hg hc
  refine ⟨r, r1, r2, fun k hk => (r3 k hk).elim (fun ⟨n', z1, _⟩ => ?_) .inr⟩
  rw [hex] at z1; cases z1
def qEn (σe : qσ) (w0 : va_W) (av : List Value) (ea pa : List AV) (c : qCon) : Prop :=
  (∀ (i : Nat) (a : AV), ea[i]? = some a → a.1 ≤ 1 → ∃ x : Int32, av[i]? = some (.int x) ∧ qvl σe a = some x.toInt) ∧ F2 (fun a f => ∃ x : Int32, qval w0 f = some x.toInt ∧ qvl σe a = some x.toInt) pa c.2.2.1
def qralt (D : qWd) (N : qN) (M : qM) (ea pa : List AV) (v : Option AV) (t : qAlt) : Bool :=
  (match t.1, v with
    | none, none => true
    | some ty, some a => qtk D N M a ty
    | _, _ => false) && (match qmat D N M t.2.1 with
    | some z => t.2.2.1.all (fun q => match ea[q.1]? with
        | some a => qint a && (match qiv N a with
          | some p => qle q.2.1 p.1 && qle p.2 q.2.2
          | none => false)
        | none => false) && t.2.2.2.1.all (qrok z.1 (pa ++ (z.2.2 ++ ea)))
    | none => false) && (match t.2.2.2.2 with
    | none => true
    | some q => Nat.blt q.1 D.2.2 && (match v, ea[q.2]? with
      | some a, some e => qint a && qkyb e && M.2.1.any (fun f => f.1 == q.1 && f.2.1 == qky e && decide (f.2.2 = a))
      | _, _ => false))
def qret (D : qWd) (c : qCon) (ea pa : List AV) (N : qN) (M : qM) (v : Option AV) : Bool := (qclr D N M).2.2.isEmpty && c.2.2.2.2.1.any (qralt D N (qclr D N M) ea pa v)
theorem q_ret {D : qWd} (hD : qD D) {γ : kΓ} {adr : List Nat} {X : va_W → Prop} {c : qCon} {ea pa : List AV} {σ σe : qσ} {ρ : qρ} {N : qN} {M : qM} {ws w0 : va_W} {av : List Value} (hE : qEn σe w0 av ea pa c) (hσ : qle1 σe σ) (hN : qsN D σ N) (hH : qsM D γ adr σ ρ M ws) (hx : X ws) (hK : qK D c.2.2.2.2.2 w0 ws) (hdis : ∀ (i j : Nat) (p q : Nat × va_E), ws[i]? = some p → ws[j]? = some q → p.1 = q.1 → i = j)
    {v : Option AV} {r : Option Value} (hv : (v = none ∧ r = none) ∨ ∃ a w, v = some a ∧ r = some w ∧ qR σ ρ a w) (h : qret D c ea pa N M v = true) : qPost D γ X c adr w0 av r ws := by
  unfold qret at h
  simp only [Bool.and_eq_true, List.any_eq_true] at h
  obtain ⟨h1, t, t1, t2⟩ := h
  have hH' := q_clr hD hN hH hdis
  refine ⟨q_H0 hD hN hH hdis h1, hx, hK, t, t1, ?_⟩
  unfold qralt at t2
  simp only [Bool.and_eq_true] at t2
  obtain ⟨⟨t3, t4⟩, t7⟩ := t2
  split at t4
  · rename_i z hz
    simp only [Bool.and_eq_true, List.all_eq_true] at t4
    obtain ⟨t5, t6⟩ := t4
    obtain ⟨σ1, ρ1, s1, r1, n1, m1, e1, f1⟩ := q_mat hD hdis hN hH' hz
    refine ⟨?_, fun f hf => ?_, fun q hq => ?_, fun q hq => ?_, fun q hq => ?_⟩
    · rcases hv with ⟨rfl, rfl⟩ | ⟨a, w, rfl, rfl, hr⟩
      · split at t3
        · rename_i h0 _; exact .inl ⟨h0, rfl⟩
        · rename_i h0; cases h0
        · cases t3
      · split at t3
        · rename_i h0; cases h0
        · rename_i ty a' h0 h2
          cases h2
          exact .inr ⟨ty, w, h0, rfl, q_tk hD hN hH' hr t3⟩
        · cases t3
    · obtain ⟨k', hk'⟩ := List.getElem?_of_mem hf
      obtain ⟨a, -, x, x1, x2, -⟩ := F2.get2 f1 hk'
      exact ⟨_, x1, x2⟩
    · have h5 := t5 q hq
      split at h5
      · rename_i a ha
        simp only [Bool.and_eq_true] at h5
        obtain ⟨h5, h6⟩ := h5
        split at h6
        · rename_i p hp
          simp only [Bool.and_eq_true, qle, decide_eq_true_eq] at h6
          obtain ⟨x, x1, x2⟩ := hE.1 _ _ ha (by unfold qint at h5; simpa using h5)
          have h7 := q_ivV hN (q_vlm hσ x2) hp
          exact ⟨x, x1, Int.le_trans h6.1 h7.1, Int.le_trans h7.2 h6.2⟩
        · cases h6
      · cases h5
    · have hq' := t6 q hq
      have hlen : pa.length = c.2.2.1.length := F2.len hE.2
      have hlen2 : z.2.2.length = t.2.1.length := F2.len f1
      have key : ∀ (i : Nat) (a : AV), (pa ++ (z.2.2 ++ ea))[i]? = some a → qint a = true → ∃ x : Int, qpv c.2.2.1 t.2.1 w0 ws av i = some x ∧ qvl σ1 a = some x := by
        intro i a ha hint
        unfold qpv
        by_cases hi : i < c.2.2.1.length
        · rw [if_pos hi]
          rw [List.getElem?_append_left (by omega)] at ha
          obtain ⟨f, hf, x, x1, x3⟩ := F2.idx hE.2 ha
          exact ⟨_, by rw [hf]; exact x1, q_vlm s1 (q_vlm hσ x3)⟩
        · rw [if_neg hi]
          rw [List.getElem?_append_right (by omega), hlen] at ha
          by_cases hi2 : i < c.2.2.1.length + t.2.1.length
          · rw [if_pos hi2]
            rw [List.getElem?_append_left (by omega)] at ha
            obtain ⟨f, hf, x, x1, -, x3⟩ := F2.idx f1 ha
            exact ⟨_, by rw [hf]; exact x1, x3⟩
          · rw [if_neg hi2]
            rw [List.getElem?_append_right (by omega), hlen2, show i - c.2.2.1.length - t.2.1.length = i - (c.2.2.1.length + t.2.1.length) by omega] at ha
            obtain ⟨x, x1, x2⟩ := hE.1 _ _ ha (by unfold qint at hint; simpa using hint)
            exact ⟨x.toInt, by rw [x1], q_vlm s1 (q_vlm hσ x2)⟩
      unfold qrok at hq'
      split at hq'
      · rename_i a b ha hb
        rw [Bool.and_eq_true, Bool.and_eq_true] at hq'
        obtain ⟨x, x1, x2⟩ := key _ _ ha hq'.1.1
        obtain ⟨y, y1, y2⟩ := key _ _ hb hq'.1.2
        exact ⟨x, y, x1, y1, q_ge n1 6 x2 y2 hq'.2⟩
      · cases hq'
    · rw [hq] at t7
      simp only [Bool.and_eq_true, Nat.blt_eq] at t7
      obtain ⟨t8, t9⟩ := t7
      split at t9
      · rename_i a e ha
        rcases hv with ⟨h0, -⟩ | ⟨a2, w, h0, rfl, hr⟩
        · cases h0
        · cases h0
          simp only [Bool.and_eq_true, List.any_eq_true, beq_iff_eq, decide_eq_true_eq] at t9
          obtain ⟨⟨hint, kb⟩, ⟨n', k', avf⟩, hm, ⟨f1', f2'⟩, f3'⟩ := t9
          simp only at f1' f2' f3'
          subst f1'
          subst f2'
          subst f3'
          obtain ⟨yv, rfl⟩ := q_int hr hint
          obtain ⟨q', a', c', v', ix, g1, g2, g3, g4, g5⟩ := hH'.2.2.2.1 _ _ _ hm
          obtain ⟨yv', rfl⟩ := q_int g4 hint
          have hyy : yv' = yv := by
            have e1 := q_vl g4
            have e2 := q_vl hr
            rw [e1] at e2
            exact Int32.toInt_inj.mp (Option.some.inj e2)
          subst hyy
          have he0 : e.1 = 0 := by unfold qkyb at kb; simp only [Bool.and_eq_true, beq_iff_eq] at kb; exact kb.1.1
          obtain ⟨x, x1, x2⟩ := hE.1 _ _ ha (by omega)
          have x3 := q_vlm hσ x2
          unfold qvl at x3
          rw [if_pos he0, Option.map_eq_some_iff] at x3
          obtain ⟨u, hu, eu⟩ := x3
          obtain ⟨u', hu', eu'⟩ := (q_ky kb).mp g5
          rw [hu] at hu'
          cases hu'
          have hx0 : 0 ≤ x.toInt := by omega
          have hcl := q_clamp hx0
          have hix : ix = x.toNatClampNeg := by omega
          subst hix
          have hpos : ws[q.1]? = some (a', c') := by
            have h9 := hH'.1 q.1 t8
            rw [g2] at h9
            obtain ⟨c9, h10⟩ := q_adr hH' h9.symm
            have h11 := hdis q' q.1 _ _ g1 h10 rfl
            rw [h11] at g1
            exact g1
          exact ⟨a', c', x, yv', hpos, x1, hx0, rfl, g3⟩
      · cases t9
  · cases t4
/-- a state held against a cut: a substitution -/
abbrev qTh : Type := List AV × List Nat
def qthr (nS : Nat) (θ : qTh) (n : Nat) : Option Nat := if n < nS then some n else θ.2[n - nS]?
def qav (nS : Nat) (N : qN) (θ : qTh) (a b : AV) : Bool :=
  if a.1 = 0 then (match θ.1[a.2.1]? with
    | some t => qint t && qint b && t.1 == b.1 && t.2.1 == b.2.1 && decide (t.2.2 + a.2.2 = b.2.2)
    | none => false)
  else if a.1 = 1 then qlit N b == some a.2.2
  else if a.1 = 2 then (match θ.1[a.2.1]? with
    | some t => t.1 == 2 && b.1 == 2 && t.2.1 == b.2.1
    | none => false)
  else if a.1 = 3 then b.1 == 3 && qthr nS θ a.2.1 == some b.2.1
  else false
def qσθ (σ : qσ) (θ : qTh) : qσ := fun v => match θ.1[v]? with
  | some t => if t.1 = 2 then σ t.2.1 else qvl σ t
  | none => none
def qρθ (nS : Nat) (ρ : qρ) (θ : qTh) : qρ := fun n => match qthr nS θ n with
  | some m => ρ m
  | none => none
theorem q_av {D : qWd} {nS : Nat} {σ : qσ} {ρ : qρ} {N : qN} (hN : qsN D σ N) {θ : qTh} {a b : AV} {v : Value} (hb : qR σ ρ b v) (h : qav nS N θ a b = true) : qR (qσθ σ θ) (qρθ nS ρ θ) a v := by
  unfold qav at h
  split at h
  · rename_i h0
    split at h
    · rename_i t ht
      simp only [Bool.and_eq_true, beq_iff_eq, decide_eq_true_eq] at h
      obtain ⟨⟨⟨⟨h1, h2⟩, h3⟩, h4⟩, h5⟩ := h
      obtain ⟨x, rfl⟩ := q_int hb h2
      have hx := q_vl hb
      refine .inl ⟨h0, x, x.toInt - a.2.2, rfl, ?_, by omega⟩
      unfold qσθ
      rw [ht]
      simp only
      have ht2 : ¬ t.1 = 2 := by unfold qint at h1; have := Nat.ble_eq.mp h1; omega
      rw [if_neg ht2]
      unfold qvl at hx ⊢
      rw [h3]
      split at hx
      · rename_i h9
        rw [if_pos h9]
        rw [Option.map_eq_some_iff] at hx ⊢
        obtain ⟨u, u1, u2⟩ := hx
        exact ⟨u, by rw [h4]; exact u1, by omega⟩
      · rename_i h9
        rw [if_neg h9]
        split at hx
        · rename_i h8
          rw [if_pos h8]
          simp only [Option.some.injEq] at hx ⊢
          omega
        · cases hx
    · cases h
  · split at h
    · rename_i h1
      simp only [beq_iff_eq] at h
      obtain ⟨x, rfl, hx⟩ := q_lit hN hb h
      exact .inr (.inl ⟨h1, x, rfl, hx⟩)
    · split at h
      · rename_i h2
        split at h
        · rename_i t ht
          simp only [Bool.and_eq_true, beq_iff_eq] at h
          obtain ⟨⟨h3, h4⟩, h5⟩ := h
          rcases hb with ⟨t9, _⟩ | ⟨t9, _⟩ | ⟨_, x, rfl, hs⟩ | ⟨t9, _⟩
          · rw [h4] at t9; cases t9
          · rw [h4] at t9; cases t9
          · refine .inr (.inr (.inl ⟨h2, x, rfl, ?_⟩))
            unfold qσθ
            rw [ht]
            simp only
            rw [if_pos h3, h5]; exact hs
          · rw [h4] at t9; cases t9
        · cases h
      · split at h
        · rename_i h3
          simp only [Bool.and_eq_true, beq_iff_eq] at h
          obtain ⟨n, rfl, hn⟩ := q_rfv hb h.1
          refine .inr (.inr (.inr ⟨h3, n, rfl, ?_⟩))
          unfold qρθ
          rw [h.2]; exact hn
        · cases h
def qfit (N : qN) (t : AV) (p : qIv) : Bool := match (if t.1 = 2 then N.1[t.2.1]? else qiv N t) with
  | some q => qle p.1 q.1 && qle q.2 p.2
  | none => false
def qall2 {α β : Type} (f : α → β → Bool) : List α → List β → Bool
  | [], [] => true
  | a :: as, b :: bs => f a b && qall2 f as bs
  | _, _ => false
theorem q_all2 {α β : Type} {f : α → β → Bool} : ∀ {l : List α} {l' : List β}, qall2 f l l' = true → l.length = l'.length ∧ ∀ (k : Nat) (a : α) (b : β), l[k]? = some a → l'[k]? = some b → f a b = true
  | [], [], _ => ⟨rfl, fun k a b h => by simp at h⟩
  | a :: as, b :: bs, h => by
    simp only [qall2, Bool.and_eq_true] at h
    obtain ⟨h1, h2⟩ := q_all2 h.2
    refine ⟨by simp [h1], fun k x y hx hy => ?_⟩
    cases k with
    | zero => simp at hx hy; subst hx; subst hy; exact h.1
    | succ k => exact h2 k x y (by simpa using hx) (by simpa using hy)
  | [], _ :: _, h => by simp [qall2] at h
  | _ :: _, [], h => by simp [qall2] at h
/-- S goes into C by θ -/
def qsub1 (D : qWd) (n0 : Nat) (S C : AS) (θ : qTh) : Bool :=
  qall2 (qfit S.1) θ.1 C.1.1 &&
  C.1.2.1.all (fun r => match θ.1[r.1]?, θ.1[r.2.1]? with
    | some a, some b => qint a && qint b && qge 6 S.1 a b r.2.2
    | _, _ => false) && C.1.2.2.isEmpty &&
  C.2.1.1.all (fun q => match S.2.1.1.find? (fun z => z.1 == q.1) with
    | some z => qav D.2.2 S.1 θ q.2 z.2
    | none => false) &&
  qall2 (qav D.2.2 S.1 θ) C.2.1.2 S.2.1.2 &&
  qall2 (fun m g => qrg D S.2.2 m == some g) θ.2 C.2.2.1 &&
  C.2.2.2.1.all (fun e => Nat.blt e.2.1 10000 && match qthr D.2.2 θ e.1 with
    | some m => (match S.2.2.2.1.find? (fun f => f.1 == m && f.2.1 == e.2.1) with
      | some f => qav D.2.2 S.1 θ e.2.2 f.2.2
      | none => false)
    | none => false) && C.2.2.2.2.isEmpty && (qclr D S.1 S.2.2).2.2.isEmpty &&
  (List.range n0).all (fun v => match θ.1[v]? with
    | some t => t.2.1 == v && decide (t.2.2 = 0) && (t.1 == 0 || t.1 == 2)
    | none => false)
theorem q_lvs {σ σ' : qσ} {ρ ρ' : qρ} {SL : List (Nat × AV)} {lv : List (Nat × Value)} (hF : F2 (fun x y => x.1 = y.1 ∧ qR σ ρ x.2 y.2) SL lv) {f : AV → AV → Bool} (hf : ∀ a b v, qR σ ρ b v → f a b = true → qR σ' ρ' a v) : ∀ {CL : List (Nat × AV)}, (∀ q ∈ CL, (match SL.find? (fun z => z.1 == q.1) with
    | some z => f q.2 z.2
    | none => false) = true) → ∃ lv' : List (Nat × Value), F2 (fun x y => x.1 = y.1 ∧ qR σ' ρ' x.2 y.2) CL lv' ∧ ∀ q ∈ lv', q ∈ lv
  | [], _ => ⟨[], trivial, fun _ h => by cases h⟩
  | q :: CL, h => by
    obtain ⟨lv', h1, h2⟩ := q_lvs hF hf (CL := CL) (fun q hq => h q (List.mem_cons_of_mem _ hq))
    have h3 := h q List.mem_cons_self
    split at h3
    · rename_i z hz
      have h4 := List.find?_some hz
      simp only [beq_iff_eq] at h4
      obtain ⟨⟨i, v⟩, h5, h6, h7⟩ := F2.mem hF (List.mem_of_find?_eq_some hz)
      refine ⟨(i, v) :: lv', ⟨⟨?_, hf _ _ _ h7 h3⟩, h1⟩, fun y hy => ?_⟩
      · simp only at h6 ⊢; rw [← h4, h6]
      · rcases List.mem_cons.mp hy with e | hy
        · rw [e]; exact h5
        · exact h2 y hy
    · cases h3
theorem q_sub1 {D : qWd} (hD : qD D) {γ : kΓ} {adr : List Nat} {n0 : Nat} {S C : AS} {θ : qTh} {σ : qσ} {ρ : qρ} {lv : List (Nat × Value)} {st : List Value} {ws : va_W} (hN : qsN D σ S.1) (hF : qsF σ ρ S.2.1 lv st) (hH : qsM D γ adr σ ρ S.2.2 ws) (hdis : ∀ (i j : Nat) (p q : Nat × va_E), ws[i]? = some p → ws[j]? = some q → p.1 = q.1 → i = j) (h : qsub1 D n0 S C θ = true) :
    ∃ lv' : List (Nat × Value), (∀ q ∈ lv', q ∈ lv) ∧ qsN D (qσθ σ θ) C.1 ∧ qsF (qσθ σ θ) (qρθ D.2.2 ρ θ) C.2.1 lv' st ∧ qsM D γ adr (qσθ σ θ) (qρθ D.2.2 ρ θ) C.2.2 ws ∧ ∀ v, v < n0 → qσθ σ θ v = σ v := by
  unfold qsub1 at h
  simp only [Bool.and_eq_true] at h
  obtain ⟨⟨⟨⟨⟨⟨⟨⟨⟨h1, h2⟩, h3⟩, h4⟩, h5⟩, h6⟩, h7⟩, h8⟩, h9⟩, h10⟩ := h
  obtain ⟨l1, k1⟩ := q_all2 h1
  obtain ⟨l5, k5⟩ := q_all2 h5
  obtain ⟨l6, k6⟩ := q_all2 h6
  rw [List.all_eq_true] at h2 h4 h7 h10
  have hav : ∀ a b v, qR σ ρ b v → qav D.2.2 S.1 θ a b = true → qR (qσθ σ θ) (qρθ D.2.2 ρ θ) a v := fun a b v hb h => q_av hN hb h
  obtain ⟨lv', f1, f2⟩ := q_lvs hF.1 hav h4
  have hH0 := q_H0 hD hN hH hdis h9
  refine ⟨lv', f2, ⟨?_, ?_, ?_, ?_⟩, ⟨f1, ?_⟩, ⟨?_, ?_, ?_, ?_, ?_⟩, ?_⟩
  · intro v hv
    unfold qσθ
    rw [List.getElem?_eq_none (by omega)]
  · intro v iv hv
    have hl : v < θ.1.length := by rw [l1]; exact (List.getElem?_eq_some_iff.mp hv).1
    have ht : θ.1[v]? = some θ.1[v] := List.getElem?_eq_getElem hl
    have hf := k1 v _ _ ht hv
    unfold qfit at hf
    unfold qσθ
    rw [ht]
    simp only
    split at hf
    · rename_i q hq
      simp only [Bool.and_eq_true, qle, decide_eq_true_eq] at hf
      split at hq
      · rename_i t2
        rw [if_pos t2]
        obtain ⟨x, x1, x2⟩ := hN.2.1 _ _ hq
        exact ⟨x, x1, Int.le_trans hf.1 x2.1, Int.le_trans x2.2 hf.2⟩
      · rename_i t2
        rw [if_neg t2]
        have hs : ∃ x, qvl σ θ.1[v] = some x := by
          unfold qiv at hq
          unfold qvl
          split at hq
          · rename_i t0
            rw [if_pos t0]
            rw [Option.map_eq_some_iff] at hq
            obtain ⟨p, p1, p2⟩ := hq
            obtain ⟨x, x1, -⟩ := hN.2.1 _ _ p1
            exact ⟨_, by rw [x1]; rfl⟩
          · rename_i t0
            rw [if_neg t0]
            split at hq
            · rename_i t1; rw [if_pos t1]; exact ⟨_, rfl⟩
            · cases hq
        obtain ⟨x, hx⟩ := hs
        have h11 := q_ivV hN hx hq
        exact ⟨x, hx, Int.le_trans hf.1 h11.1, Int.le_trans h11.2 hf.2⟩
    · cases hf
  · intro a b d hm
    have hq := h2 _ hm
    simp only at hq
    split at hq
    · rename_i ta tb hta htb
      simp only [Bool.and_eq_true] at hq
      obtain ⟨⟨qa, qb⟩, qc⟩ := hq
      have key : ∀ (t : AV) (v : Nat), θ.1[v]? = some t → qint t = true → ∃ x, qσθ σ θ v = some x ∧ qvl σ t = some x := by
        intro t v ht hi
        have ht2 : ¬ t.1 = 2 := by unfold qint at hi; have := Nat.ble_eq.mp hi; omega
        have hl : v < C.1.1.length := by rw [← l1]; exact (List.getElem?_eq_some_iff.mp ht).1
        have hf := k1 v _ _ ht (List.getElem?_eq_getElem hl)
        unfold qfit at hf
        rw [if_neg ht2] at hf
        have hs : ∃ x, qvl σ t = some x := by
          split at hf
          · rename_i q hq
            unfold qiv at hq
            unfold qvl
            split at hq
            · rename_i t0
              rw [if_pos t0]
              rw [Option.map_eq_some_iff] at hq
              obtain ⟨p, p1, p2⟩ := hq
              obtain ⟨x, x1, -⟩ := hN.2.1 _ _ p1
              exact ⟨_, by rw [x1]; rfl⟩
            · rename_i t0
              rw [if_neg t0]
              split at hq
              · rename_i t1; rw [if_pos t1]; exact ⟨_, rfl⟩
              · cases hq
          · cases hf
        obtain ⟨x, hx⟩ := hs
        refine ⟨x, ?_, hx⟩
        unfold qσθ
        rw [ht]
        simp only
        rw [if_neg ht2]; exact hx
      obtain ⟨x, x1, x2⟩ := key ta a hta qa
      obtain ⟨y, y1, y2⟩ := key tb b htb qb
      exact ⟨x, y, x1, y1, q_ge hN 6 x2 y2 qc⟩
    · cases hq
  · intro v g V d hm
    have : C.1.2.2 = [] := by simpa using h3
    rw [this] at hm; cases hm
  · have go : ∀ {cs ss : List AV} {st : List Value}, qall2 (qav D.2.2 S.1 θ) cs ss = true → F2 (qR σ ρ) ss st → F2 (qR (qσθ σ θ) (qρθ D.2.2 ρ θ)) cs st := by
      intro cs
      induction cs with
      | nil =>
        intro ss st h hs
        cases ss with
        | nil => cases st with
          | nil => exact trivial
          | cons => exact hs.elim
        | cons => simp [qall2] at h
      | cons a cs ih =>
        intro ss st h hs
        cases ss with
        | nil => simp [qall2] at h
        | cons b ss => cases st with
          | nil => exact hs.elim
          | cons v st =>
            simp only [qall2, Bool.and_eq_true] at h
            exact ⟨hav _ _ _ hs.1 h.1, ih h.2 hs.2⟩
    exact go h5 hF.2
  · intro n hn
    unfold qρθ qthr
    rw [if_pos hn]
    exact hH.1 n hn
  · intro j g hj
    have hl : j < θ.2.length := by rw [l6]; exact (List.getElem?_eq_some_iff.mp hj).1
    have ht : θ.2[j]? = some θ.2[j] := List.getElem?_eq_getElem hl
    have hf := k6 j _ _ ht hj
    simp only [beq_iff_eq] at hf
    have hs : ∃ a, ρ θ.2[j] = some a := by
      unfold qrg at hf
      split at hf
      · rename_i hlt
        rw [hH.1 _ hlt]
        have h11 := hD.2.1 _ hlt
        have hl2 : θ.2[j] < adr.length := by
          rw [← hH.2.2.2.2.1, List.length_map, hH.2.2.2.2.2.1]
          exact (List.getElem?_eq_some_iff.mp h11).1
        exact ⟨_, List.getElem?_eq_getElem hl2⟩
      · rename_i hlt
        obtain ⟨a, a1, -⟩ := hH.2.1 _ _ hf
        rw [show D.2.2 + (θ.2[j] - D.2.2) = θ.2[j] by omega] at a1
        exact ⟨a, a1⟩
    obtain ⟨a, ha⟩ := hs
    refine ⟨a, ?_, q_inR hD hH hf ha⟩
    unfold qρθ qthr
    rw [if_neg (by omega), show D.2.2 + j - D.2.2 = j by omega, ht]
    exact ha
  · intro n hn
    unfold qρθ qthr
    rw [if_neg (by omega), List.getElem?_eq_none (by omega)]
  · intro n k av hm
    have hq := h7 _ hm
    rw [Bool.and_eq_true, Nat.blt_eq] at hq
    obtain ⟨hk10, hq⟩ := hq
    simp only at hq hk10
    split at hq
    · rename_i m hm2
      split at hq
      · rename_i f hf
        have hf2 := List.find?_some hf
        simp only [Bool.and_eq_true, beq_iff_eq] at hf2
        obtain ⟨n', k', av'⟩ := f
        obtain ⟨q, a, c, v, ix, g1, g2, g3, g4, g5⟩ := hH.2.2.2.1 n' k' av' (List.mem_of_find?_eq_some hf)
        simp only at hf2
        obtain ⟨e1, e2⟩ := hf2
        subst e1; subst e2
        have hix : ix = k' := by
          rcases g5 with ⟨-, h7⟩ | ⟨h7, -⟩
          · exact h7
          · omega
        subst hix
        refine ⟨q, a, c, v, ix, g1, ?_, g3, hav _ _ _ g4 hq, .inl ⟨hk10, rfl⟩⟩
        unfold qρθ
        rw [hm2]; exact g2
      · cases hq
    · cases hq
  · refine ⟨hH0.1, hH0.2.1, fun q g a c hg hc => ?_⟩
    obtain ⟨r, r1, r2, r3⟩ := hH0.2.2 q g a c hg hc
    exact ⟨r, r1, r2, fun k hk => (r3 k hk).elim (fun f => f.elim) .inr⟩
  · intro v hv
    have hq := h10 v (List.mem_range.mpr hv)
    split at hq
    · rename_i t ht
      simp only [Bool.and_eq_true, beq_iff_eq, decide_eq_true_eq, Bool.or_eq_true] at hq
      obtain ⟨⟨q1, q2⟩, q3⟩ := hq
      unfold qσθ
      rw [ht]
      simp only
      rcases q3 with q3 | q3
      · rw [if_neg (by omega)]
        unfold qvl
        rw [if_pos q3, q1, q2]
        cases σ v <;> simp
      · rw [if_pos q3, q1]
    · cases hq

/-! the contract of a method, by its check -/
def qloc : Nat → List AV → List (Nat × AV)
  | _, [] => []
  | i, a :: r => (i, a) :: qloc (if a.1 = 2 then i + 2 else i + 1) r
theorem q_loc {σ : qσ} {ρ : qρ} : ∀ {as : List AV} {av : List Value} (i : Nat), F2 (qR σ ρ) as av → F2 (fun x y => x.1 = y.1 ∧ qR σ ρ x.2 y.2) (qloc i as) (lv_args i av)
  | [], [], _, _ => trivial
  | a :: as, v :: av, i, ⟨h1, h2⟩ => by
    unfold qloc lv_args
    refine ⟨⟨rfl, h1⟩, ?_⟩
    have : (if v.category = 2 then i + 2 else i + 1) = (if a.1 = 2 then i + 2 else i + 1) := by
      rw [h1.cat.2]
      by_cases h : a.1 = 2
      · simp [h]
      · simp [h]
    rw [this]
    exact q_loc _ h2
theorem q_sl {σ : qσ} {ρ : qρ} : ∀ {as : List AV} {av : List Value}, F2 (qR σ ρ) as av → (lg_sl av).length = qwt as
  | [], [], _ => rfl
  | a :: as, v :: av, ⟨h1, h2⟩ => by
    have ih := q_sl h2
    unfold lg_sl at ih ⊢
    rw [List.flatMap_cons, List.length_append, ih]
    show _ = (if a.1 = 2 then 2 else 1) + qwt as
    have := h1.cat.2
    by_cases h : a.1 = 2
    · rw [if_pos h] at this; simp [this, h]
    · rw [if_neg h] at this; simp [this, h]
def qlks (as : List AV) : List Nat := (as.filter (fun a => a.1 == 2)).map (fun a => a.2.1)
def qchk (D : qWd) (xr : List Nat) (tb : qTb) (MT : List qMt) (B : List qCon) (nL rk : Nat) (c : qCon) (T : qPg) (thr : List Nat) (sps : List (Nat × Nat)) (cuts : List qCut) (fu : Nat) : Bool :=
  match qargs D ([], [], []) ([], [], []) c.2.1 with
  | some z => (match qlrn z.1 z.2.1 c.2.2.1 with
    | some w => (match qrels w.1 w.2.2 c.2.2.2.1 with
      | some N => Nat.ble (qwt z.2.2) nL && c.2.2.1.all (fun f => Nat.blt f.1 D.2.2 && Nat.blt f.2.1 10000) &&
          qgo D c.2.2.2.2.2 xr tb MT B c.1.2.1 c.1.2.2 nL rk c z.2.2 w.2.2 T thr sps N.1.length (qlks z.2.2) cuts N.1.length none fu (N, (qloc 0 z.2.2, []), w.2.1) 0 &&
          qsegs D c.2.2.2.2.2 xr tb MT B c.1.2.1 c.1.2.2 nL rk c z.2.2 w.2.2 T thr sps N.1.length (qlks z.2.2) cuts fu
      | none => false)
    | none => false)
  | none => false
theorem q_ent {γ : kΓ} {p : Program} {l : Launch} {e : Env} {R : Room} {s : State} {m : MethodId} {args : Array Value} {below : List Frame} {meth : Method} {cd : Code} {Q : State → Prop} {cc : ByteArray} {nL : Nat} {own : String} {A : Nat → Prop} {D : qWd} {adr : List Nat} {X : va_W → Prop} {ws : va_W}
    {xr : List Nat} {tb : qTb} {MT : List qMt} {B : List qCon} {rk : Nat} {c : qCon} {T : qPg} {thr : List Nat} {sps : List (Nat × Nat)} {cuts : List qCut} {fu : Nat} {av : List Value}
    (hB : kC γ p s m args cd cc nL own A) (hD : qD D) (hX : ∀ (ws : va_W) (q g a : Nat) (c : va_E), D.1[q]? = some g → ¬ g ∈ xr → ws.map Prod.fst = adr → adr[q]? = some a → X ws → X (ws.set q (a, c))) (htb : qTbk own MT tb) (hcon : ∀ c ∈ B, qSem γ l D X MT c) (hR : c.1.2.1 ≤ R.frames ∧ c.1.2.2 ≤ R.locals) (hT : qPgk T cc = true) (hp : qPre D γ X c adr ws av)
    (hret : ∀ σ : qσ, qRt (γ, p, l, e, R, s, m, args, below, meth, cd, Q, (cc, nL, own), A, D, adr, X, c.2.2.2.2.2, ws, σ) rk (qPost D γ X c adr ws av)) (hth : ∀ σ : qσ, qTh9 (γ, p, l, e, R, s, m, args, below, meth, cd, Q, (cc, nL, own), A, D, adr, X, c.2.2.2.2.2, ws, σ) thr)
    (hchk : qchk D xr tb MT B nL rk c T thr sps cuts fu = true) {H : Heap} {locs : List Loc} {ls : Array Slot} (hw : kW γ A ws s H locs) (hl : lv_has ls nL (lv_args 0 av)) : W p l e R s m args below meth cd H locs 0 0 Q (F0 m 0 ls []) := by
  obtain ⟨p1, p2, p3, p4, p5⟩ := hp
  unfold qchk at hchk
  split at hchk
  · rename_i z hz
    split at hchk
    · rename_i w hw'
      split at hchk
      · rename_i N hN
        simp only [Bool.and_eq_true, List.all_eq_true, Nat.blt_eq] at hchk
        obtain ⟨⟨⟨c1, c2⟩, c3⟩, c4⟩ := hchk
        have n0 : qsN D (fun _ => none) ([], [], []) := ⟨fun _ _ => rfl, fun v iv h => by simp at h, fun a b d h => by simp at h, fun v g V d h => by simp at h⟩
        have m0 : qsM D γ adr (fun _ => none) (fun n => if n < D.2.2 then adr[n]? else none) ([], [], []) ws := by
          refine ⟨fun n hn => by simp [hn], fun j g h => by simp at h, fun n hn => ?_, fun n k a h => by simp at h, p1.1, p1.2.1, fun q g a c hg hc => ?_⟩
          · simp at hn
            have : ¬ n < D.2.2 := by omega
            simp [this]
          · obtain ⟨r, r1, r2, r3⟩ := p1.2.2 q g a c hg hc
            exact ⟨r, r1, r2, fun k hk => (r3 k hk).elim (fun f => f.elim) .inr⟩
        obtain ⟨σ1, ρ1, s1, r1, n1, m1, f1⟩ := q_args hD n0 m0 p3 hz
        obtain ⟨w2, e2, σ2, s2, n2, m2, f2⟩ := q_lrn hw.2.1.1 n1 m1 (fun f hf => ⟨c2 f hf, p4 f hf⟩)
        rw [hw'] at e2
        cases e2
        obtain ⟨N', e3, n3⟩ := q_rels (As := w.2.2) (f := fun i => (c.2.2.1[i]?).bind (qval ws)) (fun i a ha _ => by
          obtain ⟨f, hf, x, x1, x3⟩ := F2.idx f2 ha
          exact ⟨x, by rw [hf]; exact x1, x3⟩) n2 p5
        rw [hN] at e3
        cases e3
        have f1' := F2.mono (fun _ _ h => h.mono s2 (qle2.refl ρ1)) f1
        have hE : qEn σ2 ws av z.2.2 w.2.2 c := by
          refine ⟨fun i a ha h1 => ?_, f2⟩
          obtain ⟨v, v1, v2⟩ := F2.idx f1' ha
          obtain ⟨x, rfl⟩ := q_int v2 (by unfold qint; exact Nat.ble_eq.mpr h1)
          exact ⟨x, v1, q_vl v2⟩
        have hK0 : qK D c.2.2.2.2.2 ws ws := by
          intro q g a c1 a' c1' _ h1 h2 k _
          rw [h1] at h2
          cases h2
          rfl
        have hG : qG (γ, p, l, e, R, s, m, args, below, meth, cd, Q, (cc, nL, own), A, D, adr, X, c.2.2.2.2.2, ws, σ2) (N, (qloc 0 z.2.2, []), w.2.1) 0 := by
          refine q_go (x := (γ, p, l, e, R, s, m, args, below, meth, cd, Q, (cc, nL, own), A, D, adr, X, c.2.2.2.2.2, ws, σ2)) (av := av) hB rfl hD rfl rfl hX htb hcon hR rfl hT hE (hret σ2) (hth σ2) ?_ fu _ 0 c3
          intro k' hk' S' hc'
          unfold qcchk at hc'
          simp only [Bool.and_eq_true] at hc'
          intro σ3 ρ3 lv3 st3 ls3 ws3 H3 locs3 hw3 hl3 hS3
          obtain ⟨g1, g2, g3, g4, g5, g6⟩ := hS3
          obtain ⟨lv', f1, f2, f3, f4, f5⟩ := q_sub1 hD g1 g2 g3 hw3.2.1.1 hc'.1
          have hseg' := c4
          unfold qsegs at hseg'
          rw [List.all_eq_true] at hseg'
          have hs' := hseg' k' hk'
          simp only [Bool.and_eq_true] at hs'
          obtain ⟨y', y1, y2⟩ := q_pos f2 hs'.1
          refine q_cuts hB hD rfl hX htb hcon hR hT hE hret hth n3.1 c4 ((k'.2.2.1 + y').toNat + 1) k' hk' _ _ lv' st3 ls3 ws3 H3 locs3 y' hw3 ⟨hl3.1, hl3.2.1, fun q hq => hl3.2.2 q (f1 q hq)⟩ f2 f3 f4 g4 g5 ?_ y1 (Nat.lt_succ_self _)
          intro v z hv
          have hv0 : v < N.1.length := by
            rcases Nat.lt_or_ge v N.1.length with h9 | h9
            · exact h9
            · rw [n3.1 v h9] at hv; cases hv
          rw [f5 v hv0]
          exact g6 _ _ hv
        exact hG σ2 ρ1 _ [] ls ws H locs hw hl ⟨n3, ⟨q_loc 0 f1', trivial⟩, m2, p2, hK0, qle1.refl _⟩
      · cases hchk
    · cases hchk
  · cases hchk
section QRT
variable {γ : kΓ} {p : Program} {l : Launch} {e : Env} {R : Room} {s : State} {m : MethodId} {args : Array Value} {below : List Frame} {meth : Method} {c : Code} {H : Heap} {locs : List Loc} {cells slots : Nat} {Q : State → Prop}
variable {cc : ByteArray} {nL pc : Nat} {own : String} {A : Nat → Prop} {ws : va_W} {ls : Array Slot} {post : Option Value → va_W → Prop}
theorem k_lret {mc ms : Nat} {w1 : va_W} {v : Int64} (hC : kC γ p s m args c cc nL own A) (hr : meth.sig.returnType = some .long) (hlocks : meth.locks = false) (hw : kW γ A ws s H locs) (is : List Nat) (hn : va_nd is = true) (hs : is.map (fun i => ws[i]?) = w1.map some) (hp : post (some (.long v)) w1) (hc : cells ≤ mc) (hsl : slots ≤ ms) (hdg : decode cc pc = .ok (.lreturn, 1)) :
    W p l e R s m args below meth c H locs cells slots (MQ below (kQ γ A post) args s mc ms A) (F0 m pc ls [.long v]) :=
  W.widen hc hsl (W.lret hC.1 hC.2.1 hr (fun t ht hW => k_end (mc := 0) (ms := 0) hw is hn hs hp t ht) hw.2.2.2.2 hdg hlocks)
theorem q_rt (hC : kC γ p s m args c cc nL own A) (hlocks : meth.locks = false) {ret : Option FieldType} (hr : meth.sig.returnType = ret) {rk : Nat} (hrk : (rk = 0 ∧ ret = none) ∨ (rk = 1 ∧ ret = some .int) ∨ (rk = 2 ∧ ret = some .boolean) ∨ (rk = 3 ∧ ret = some .long)) {D : qWd} {adr : List Nat} {X : va_W → Prop} {ms : qMods} {w0 : va_W} (σ : qσ) :
    qRt (γ, p, l, e, R, s, m, args, below, meth, c, MQ below (kQ γ A post) args s 0 0 A, (cc, nL, own), A, D, adr, X, ms, w0, σ) rk post := by
  intro ws H locs pc ls hw
  refine ⟨fun h0 hd hp => ?_, fun v hv hd hp => ?_, fun v h3 hd hp => ?_⟩
  · have hn : ret = none := by
      rcases hrk with ⟨z, h⟩ | ⟨z, h⟩ | ⟨z, h⟩ | ⟨z, h⟩
      · exact h
      all_goals omega
    exact k_vret hC (hr.trans hn) hlocks hw (List.range ws.length) (q_nd _) (q_all ws) hp (Nat.le_refl _) (Nat.le_refl _) hd
  · rcases hv with h1 | ⟨h2, hv⟩
    · have hn : ret = some .int := by
        rcases hrk with ⟨z, h⟩ | ⟨z, h⟩ | ⟨z, h⟩ | ⟨z, h⟩
        · omega
        · exact h
        all_goals omega
      exact k_iret hC (hr.trans hn) hlocks hw (List.range ws.length) (q_nd _) (q_all ws) hp (Nat.le_refl _) (Nat.le_refl _) hd
    · have hn : ret = some .boolean := by
        rcases hrk with ⟨z, h⟩ | ⟨z, h⟩ | ⟨z, h⟩ | ⟨z, h⟩
        · omega
        · omega
        · exact h
        · omega
      exact k_zret hC (hr.trans hn) hlocks (by rcases hv with rfl | rfl <;> rfl) hw (List.range ws.length) (q_nd _) (q_all ws) hp (Nat.le_refl _) (Nat.le_refl _) hd
  · have hn : ret = some .long := by
      rcases hrk with ⟨z, h⟩ | ⟨z, h⟩ | ⟨z, h⟩ | ⟨z, h⟩
      · omega
      · omega
      · omega
      · exact h
    exact k_lret hC (hr.trans hn) hlocks hw (List.range ws.length) (q_nd _) (q_all ws) hp (Nat.le_refl _) (Nat.le_refl _) hd
end QRT
theorem q_sem {γ : kΓ} {l : Launch} {D : qWd} {X : va_W → Prop} {MT : List qMt} {xr : List Nat} {tb : qTb} {B : List qCon} {rk : Nat} {c : qCon} {T : qPg} {sps : List (Nat × Nat)} {cuts : List qCut} {fu : Nat} {y : qMt} (hD : qDok D = true) (hy : MT[c.1.1]? = some y) (hpl : plainName y.1.cls = true) (hrk : (rk = 0 ∧ y.2.2.2 = none) ∨ (rk = 1 ∧ y.2.2.2 = some .int) ∨ (rk = 2 ∧ y.2.2.2 = some .boolean) ∨ (rk = 3 ∧ y.2.2.2 = some .long))
    (hX : ∀ (adr : List Nat) (ws : va_W) (q g a : Nat) (c : va_E), D.1[q]? = some g → ¬ g ∈ xr → ws.map Prod.fst = adr → adr[q]? = some a → X ws → X (ws.set q (a, c))) (htb : qTbk y.1.cls MT tb) (hcon : ∀ c ∈ B, qSem γ l D X MT c) (hT : qPgk T y.2.1 = true) (hchk : qchk D xr tb MT B y.2.2.1 rk c T [] sps cuts fu = true) : qSem γ l D X MT c := by
  refine ⟨y, hy, fun adr ws av hp => ?_⟩
  have hslot : (lg_sl av).length ≤ y.2.2.1 := by
    obtain ⟨p1, p2, p3, p4, p5⟩ := hp
    unfold qchk at hchk
    split at hchk
    · rename_i z hz
      split at hchk
      · split at hchk
        · simp only [Bool.and_eq_true, Nat.ble_eq] at hchk
          have n0 : qsN D (fun _ => none) ([], [], []) := ⟨fun _ _ => rfl, fun v iv h => by simp at h, fun a b d h => by simp at h, fun v g V d h => by simp at h⟩
          have m0 : qsM D γ adr (fun _ => none) (fun n => if n < D.2.2 then adr[n]? else none) ([], [], []) ws := by
            refine ⟨fun n hn => by simp [hn], fun j g h => by simp at h, fun n hn => ?_, fun n k a h => by simp at h, p1.1, p1.2.1, fun q g a c hg hc => ?_⟩
            · simp at hn
              have : ¬ n < D.2.2 := by omega
              simp [this]
            · obtain ⟨r, r1, r2, r3⟩ := p1.2.2 q g a c hg hc
              exact ⟨r, r1, r2, fun k hk => (r3 k hk).elim (fun f => f.elim) .inr⟩
          obtain ⟨σ1, ρ1, s1, r1, n1, m1, f1⟩ := q_args (q_Dok hD) n0 m0 p3 hz
          rw [q_sl f1]
          exact hchk.1.1.1
        · cases hchk
      · cases hchk
    · cases hchk
  refine k_ofW hpl hslot ?_
  intro p e s m below meth cd A ls hC hr hlocks hname hw hl
  exact q_ent hC (q_Dok hD) (hX adr) htb hcon ⟨Nat.le_refl _, Nat.le_refl _⟩ hT hp (fun σ => q_rt hC hlocks hr hrk σ) (fun σ pc hpc => by cases hpc) hchk hw hl

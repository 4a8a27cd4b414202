/-! reads: the codes that it puts are in order -/
theorem q_rtX {γ : kΓ} {p : Program} {l : Launch} {e : Env} {R : Room} {s : State} {m : MethodId} {args : Array Value} {below : List Frame} {meth : Method} {cd : Code} {Q : State → Prop} {cn : ByteArray × Nat × String} {A : Nat → Prop} {D : qWd} {adr : List Nat} {X X2 : va_W → Prop} {ms : qMods} {w0 : va_W} {σ : qσ} {rk : Nat} {post post' : Option Value → va_W → Prop} (h : qRt (γ, p, l, e, R, s, m, args, below, meth, cd, Q, cn, A, D, adr, X, ms, w0, σ) rk post) (hp : ∀ r w, post' r w → post r w) : qRt (γ, p, l, e, R, s, m, args, below, meth, cd, Q, cn, A, D, adr, X2, ms, w0, σ) rk post' := by
  unfold qRt at h ⊢
  simp only [qkW, qdc, qWp] at h ⊢
  intro ws H locs pc ls hw
  obtain ⟨k1, k2, k3⟩ := h ws H locs pc ls hw
  exact ⟨fun a b c => k1 a b (hp _ _ c), fun v a b c => k2 v a b (hp _ _ c), fun v a b c => k3 v a b (hp _ _ c)⟩
theorem q_l3 {α β : Type} {P : α → β → Prop} {a b c : α} : ∀ {l : List β}, F2 P [a, b, c] l → ∃ w x y, l = [w, x, y] ∧ P a w ∧ P b x ∧ P c y
  | [w, x, y], ⟨h1, h2, h3, _⟩ => ⟨w, x, y, rfl, h1, h2, h3⟩
theorem o_Bn : ∀ {st : List Nat} {n k : Nat} {av : AV}, (n, k, av) ∈ oB st → n = 12 ∧ k ≤ st.length ∧ av.1 = 1
  | a :: r, n, k, av, h => by
    unfold oB at h
    rcases List.mem_cons.mp h with h | h
    · cases h
      exact ⟨rfl, Nat.le_refl _, rfl⟩
    · obtain ⟨h1, h2, h3⟩ := o_Bn h
      exact ⟨h1, Nat.le_succ_of_le h2, h3⟩
theorem r_kq {q : rK} (h : q ∈ rKs) : qat pg_X12_reads q.1 = some (.invokevirtual 209, 3) ∧ 0 ≤ q.2.1.1 ∧ q.2.1.2 ≤ 10099 ∧ q.2.2.1 < 2 ∧ ∀ (st : List Nat) (c : Int), qIn q.2.1 c → mDl st c = mDl st q.2.1.1 := by
  unfold rKs at h
  simp only [List.mem_cons, List.mem_nil_iff, or_false] at h
  have lit : ∀ {a c : Int} {st : List Nat}, qIn (a, a) c → mDl st c = mDl st a := fun {a c st} h => by
    have : c = a := Int.le_antisymm h.2 h.1
    rw [this]
  rcases h with rfl | rfl | rfl | rfl | rfl | rfl | rfl | rfl | rfl | rfl | rfl | rfl
  · exact ⟨rfl, by decide, by decide, by decide, fun st c h => lit h⟩
  · exact ⟨rfl, by decide, by decide, by decide, fun st c h => lit h⟩
  · exact ⟨rfl, by decide, by decide, by decide, fun st c h => by
    have h : 1 ≤ c ∧ c ≤ 4 := h
    rw [w_dp (by omega) (by omega) (by omega) (by omega), w_dp (by decide) (by decide) (by decide) (by decide)]⟩
  · exact ⟨rfl, by decide, by decide, by decide, fun st c h => by
    have h : 100 ≤ c ∧ c ≤ 10099 := h
    rw [w_dp (by omega) (by omega) (by omega) (by omega), w_dp (by decide) (by decide) (by decide) (by decide)]⟩
  · exact ⟨rfl, by decide, by decide, by decide, fun st c h => lit h⟩
  · exact ⟨rfl, by decide, by decide, by decide, fun st c h => lit h⟩
  · exact ⟨rfl, by decide, by decide, by decide, fun st c h => lit h⟩
  · exact ⟨rfl, by decide, by decide, by decide, fun st c h => lit h⟩
  · exact ⟨rfl, by decide, by decide, by decide, fun st c h => lit h⟩
  · exact ⟨rfl, by decide, by decide, by decide, fun st c h => lit h⟩
  · exact ⟨rfl, by decide, by decide, by decide, fun st c h => lit h⟩
  · exact ⟨rfl, by decide, by decide, by decide, fun st c h => lit h⟩
theorem r_con (γ : kΓ) (l : Launch) {f : Nat} {c0 : Nat → Int} {st : List Nat} : ∀ c ∈ rBc, qSem γ l mD (rX f c0 st) mMT c := (q_f1 (q_upS r_dep (by decide) (ms_11 γ l)) (q_f1 (q_upS r_dep (by decide) (ms_13 γ l)) (q_f1 (q_upS r_dep (by decide) (ms_14 γ l)) (q_f1 (q_upS r_dep (by decide) (ms_15 γ l)) (q_f1 (q_upS r_dep (by decide) (ms_17 γ l)) (q_f1 (q_upS r_dep (by decide) (ms_25 γ l)) (q_f1 (q_upS r_dep (by decide) (ms_26 γ l)) (q_f1 (q_upS r_dep (by decide) (ms_27 γ l)) q_f0))))))))
/-- what is open lies in its row -/
def oX (st : List Nat) (w : va_W) : Prop := ∀ n k av, (n, k, av) ∈ oB st → qval w (n, k, 0, 0) = some av.2.2
theorem o_dep {st : List Nat} : qdep2 mD [12] [] (oX st) := by
  intro ws w1 he h hx n k av hm
  have hn : n = 12 := (o_Bn hm).1
  subst hn
  have h9 := hx 12 k av hm
  simp only [qval] at h9 ⊢
  split at h9
  · rename_i c hc
    have hl : ws.length = w1.length := by have := congrArg List.length he; simpa using this
    obtain ⟨c', hc'⟩ : ∃ c', w1[12]? = some c' := ⟨_, List.getElem?_eq_getElem (by have := (List.getElem?_eq_some_iff.mp hc).1; omega)⟩
    rw [hc']
    simp only
    rw [h 12 12 c.1 c'.1 c.2 c'.2 (by decide +kernel) hc hc' k (.inl (by decide))]
    exact h9
  · cases h9
theorem o_up {γ : kΓ} {l : Launch} {c : qCon} {f : Nat} {c0 : Nat → Int} {st : List Nat} (h1 : qdis c.2.2.2.2.2 rDp = true) (h2 : qfar c.2.2.2.2.2 [12] [] = true) (h : qSem γ l mD (fun _ => True) mMT c) : qSem γ l mD (fun w => rX f c0 st w ∧ oX st w) mMT c := by
  refine q_imp h rfl (fun adr ws av hp => ⟨hp.1, trivial, hp.2.2⟩) (fun adr ws av r w1 hp hq => ⟨hq.1, ⟨?_, ?_⟩, hq.2.2⟩)
  · exact r_dep ws w1 (hp.1.1.trans hq.1.1.symm) (fun q g a a' c0 c1 hg h0 h1' k hk => hq.2.2.1 q g a c0 a' c1 hg h0 h1' k (q_dis h1 hk)) hp.2.1.1
  · exact o_dep ws w1 (hp.1.1.trans hq.1.1.symm) (fun q g a a' c0 c1 hg h0 h1' k hk => hq.2.2.1 q g a c0 a' c1 hg h0 h1' k (q_far h2 hk)) hp.2.1.2
theorem o_con (γ : kΓ) (l : Launch) {f : Nat} {c0 : Nat → Int} {st : List Nat} : ∀ c ∈ rBc, qSem γ l mD (fun w => rX f c0 st w ∧ oX st w) mMT c := (q_f1 (o_up (by decide) (by decide) (ms_11 γ l)) (q_f1 (o_up (by decide) (by decide) (ms_13 γ l)) (q_f1 (o_up (by decide) (by decide) (ms_14 γ l)) (q_f1 (o_up (by decide) (by decide) (ms_15 γ l)) (q_f1 (o_up (by decide) (by decide) (ms_17 γ l)) (q_f1 (o_up (by decide) (by decide) (ms_25 γ l)) (q_f1 (o_up (by decide) (by decide) (ms_26 γ l)) (q_f1 (o_up (by decide) (by decide) (ms_27 γ l)) q_f0))))))))
theorem o_xok {f : Nat} {c0 : Nat → Int} {st : List Nat} (adr : List Nat) (ws : va_W) (q g a : Nat) (c : va_E) (hg : mD.1[q]? = some g) (hx : ¬ g ∈ ([0, 11, 12] : List Nat)) (he : ws.map Prod.fst = adr) (ha : adr[q]? = some a) (h : rX f c0 st ws ∧ oX st ws) : rX f c0 st (ws.set q (a, c)) ∧ oX st (ws.set q (a, c)) := by
  have hd : qdep mD [12] (oX st) := fun ws w1 he h hx => o_dep ws w1 he (fun q g a a' c c' hg h1 h2 k hk => h q g a a' c c' hg (by
    rcases hk with hk | hk
    · exact hk
    · cases hk) h1 h2 k) hx
  refine ⟨r_xok adr ws q g a c hg (fun h9 => hx (by
    simp only [List.mem_cons, List.mem_nil_iff, or_false] at h9 ⊢
    omega)) he ha h.1, q_depW hd adr ws q g a c hg (fun h9 => hx (by
    rw [List.mem_singleton] at h9
    rw [h9]; decide)) he ha h.2⟩
theorem r_ok (st : List Nat) {q : rK} (hq : q ∈ rKs) : rOk st.length q.2.1 = (mDl st q.2.1.1).isSome := by
  unfold rKs at hq
  simp only [List.mem_cons, List.mem_nil_iff, or_false] at hq
  have op : ∀ c : Int, 20 ≤ c ∧ c ≤ 27 ∧ ¬ c = 23 → (mDl st c).isSome = true := fun c h => by rw [w_dl h]; rfl
  have pu : ∀ c : Int, c = 28 ∨ c = 30 → Nat.blt st.length 5 = (mDl st c).isSome := fun c h => by
    unfold mDl
    rcases h with rfl | rfl
    · rw [if_pos rfl]
      by_cases h5 : st.length < 5
      · rw [if_pos h5, Nat.blt_eq.mpr h5]; rfl
      · rw [if_neg h5]
        have : Nat.blt st.length 5 = false := by
          cases hb : Nat.blt st.length 5 with
          | false => rfl
          | true => exact absurd (Nat.blt_eq.mp hb) h5
        rw [this]; rfl
    · rw [if_neg (by decide), if_pos rfl]
      by_cases h5 : st.length < 5
      · rw [if_pos h5, Nat.blt_eq.mpr h5]; rfl
      · rw [if_neg h5]
        have : Nat.blt st.length 5 = false := by
          cases hb : Nat.blt st.length 5 with
          | false => rfl
          | true => exact absurd (Nat.blt_eq.mp hb) h5
        rw [this]; rfl
  have cl : Nat.blt 0 st.length = (mDl st 29).isSome := by
    unfold mDl
    rw [if_neg (by decide), if_neg (by decide), if_neg (by decide), if_pos rfl]
    cases st with
    | nil => rfl
    | cons a r =>
      rw [Nat.blt_eq.mpr (by simp)]; rfl
  have vl : ∀ c : Int, ¬ c = 28 → ¬ c = 30 → ¬ (20 ≤ c ∧ c ≤ 27 ∧ ¬ c = 23) → ¬ c = 29 → (mDl st c).isSome = true := fun c h1 h2 h3 h4 => by rw [w_dp h1 h2 h3 h4]; rfl
  unfold rOk
  rcases hq with rfl | rfl | rfl | rfl | rfl | rfl | rfl | rfl | rfl | rfl | rfl | rfl
  · rw [if_pos (by decide)]; exact pu _ (by decide)
  · rw [if_pos (by decide)]; exact pu _ (by decide)
  · rw [if_neg (by decide), if_neg (by decide), vl _ (by decide) (by decide) (by decide) (by decide)]
  · rw [if_neg (by decide), if_neg (by decide), vl _ (by decide) (by decide) (by decide) (by decide)]
  · rw [if_neg (by decide), if_neg (by decide), op _ (by decide)]
  · rw [if_neg (by decide), if_neg (by decide), op _ (by decide)]
  · rw [if_neg (by decide), if_neg (by decide), op _ (by decide)]
  · rw [if_neg (by decide), if_neg (by decide), op _ (by decide)]
  · rw [if_neg (by decide), if_neg (by decide), op _ (by decide)]
  · rw [if_neg (by decide), if_neg (by decide), op _ (by decide)]
  · rw [if_neg (by decide), if_neg (by decide), op _ (by decide)]
  · rw [if_neg (by decide), if_pos (by decide)]; exact cl
section RD
variable {γ : kΓ} {p : Program} {l : Launch} {e : Env} {R : Room} {s : State} {m : MethodId} {args : Array Value} {below : List Frame} {meth : Method} {cd : Code} {Q : State → Prop} {A : Nat → Prop} {adr : List Nat} {w0 : va_W} {a0 : Nat} {f : Nat} {E0 E1 E2 E3 E4 : Int32}
/-- what stands fast while reads runs -/
def rFix (γ : kΓ) (p : Program) (l : Launch) (e : Env) (R : Room) (s : State) (m : MethodId) (args : Array Value) (below : List Frame) (meth : Method) (cd : Code) (Q : State → Prop) (A : Nat → Prop) (adr : List Nat) (w0 : va_W) (a0 f : Nat) (E0 E1 E2 E3 E4 : Int32) : Prop :=
  kC γ p s m args cd cX12_reads 6 RX12 A ∧ (2 ≤ R.frames ∧ 42 ≤ R.locals) ∧ (∀ (st : List Nat) (σ : qσ), qRt (γ, p, l, e, R, s, m, args, below, meth, cd, Q, (cX12_reads, 6, RX12), A, mD, adr, rX f (mGet w0 11) st, mn_29.2.2.2.2.2, w0, σ) 2 (qPost mD γ (rX f (mGet w0 11) st) (rC st.length) adr w0 [.ref a0])) ∧
  adr[0]? = some a0 ∧ (qval w0 (0, 3, 1, 1000) = some E0.toInt ∧ qval w0 (0, 4, 1, 1000) = some E1.toInt ∧ qval w0 (0, 5, 0, 999) = some E2.toInt ∧ qval w0 (0, 6, 1, 4) = some E3.toInt ∧ qval w0 (0, 20, 1000, 2000) = some E4.toInt) ∧
  ((1 ≤ E0.toInt ∧ E0.toInt ≤ 1000) ∧ (1 ≤ E1.toInt ∧ E1.toInt ≤ 1000) ∧ (0 ≤ E2.toInt ∧ E2.toInt ≤ 999) ∧ (1 ≤ E3.toInt ∧ E3.toInt ≤ 4) ∧ (1000 ≤ E4.toInt ∧ E4.toInt ≤ 2000))
theorem r_en {σ : qσ} {n : Nat} (hF : rFix γ p l e R s m args below meth cd Q A adr w0 a0 f E0 E1 E2 E3 E4) (h0 : σ 0 = some E0.toInt) (h1 : σ 1 = some E1.toInt) (h2 : σ 2 = some E2.toInt) (h3 : σ 3 = some E3.toInt) (h4 : σ 4 = some E4.toInt) : qEn σ w0 [.ref a0] [(3, 0, 0)] [(0, 0, 0), (0, 1, 0), (0, 2, 0), (0, 3, 0), (0, 4, 0)] (rC n) := by
  obtain ⟨-, -, -, -, ⟨v0, v1, v2, v3, v4⟩, -⟩ := hF
  refine ⟨fun i a ha h1 => ?_, ?_⟩
  · match i, ha with
    | 0, ha => cases ha; omega
  · have : F2 (fun a f => ∃ x : Int32, qval w0 f = some x.toInt ∧ qvl σ a = some x.toInt) [(0, 0, 0), (0, 1, 0), (0, 2, 0), (0, 3, 0), (0, 4, 0)] mn_29.2.2.1 := ⟨⟨E0, v0, by simp [qvl, h0]⟩, ⟨E1, v1, by simp [qvl, h1]⟩, ⟨E2, v2, by simp [qvl, h2]⟩, ⟨E3, v3, by simp [qvl, h3]⟩, ⟨E4, v4, by simp [qvl, h4]⟩, trivial⟩
    cases n <;> exact this
theorem r_ms (n : Nat) : mn_29.2.2.2.2.2 = (rC n).2.2.2.2.2 := by cases n <;> rfl
theorem r_ret (hF : rFix γ p l e R s m args below meth cd Q A adr w0 a0 f E0 E1 E2 E3 E4) (st : List Nat) (σ : qσ) : qRt (γ, p, l, e, R, s, m, args, below, meth, cd, Q, (cX12_reads, 6, RX12), A, mD, adr, (fun w => rX f (mGet w0 11) st w ∧ oX st w), mn_29.2.2.2.2.2, w0, σ) 2 (qPost mD γ (fun w => rX f (mGet w0 11) st w ∧ oX st w) (rC st.length) adr w0 [.ref a0]) := by
  exact q_rtX (hF.2.2.1 st σ) (fun r w c => ⟨c.1, c.2.1.1, c.2.2⟩)
/-- a state at the head of the loop, by its numbers -/
theorem r_hd (st : List Nat) (w : Nat) {lv : List (Nat × Value)} (D1 W1 : Int32) (hlv : lv = [(0, .ref a0), (1, .int D1), (2, .int W1)]) (ha0 : adr[0]? = some a0) (hD1 : D1.toInt = (st.length : Int)) (hW1 : W1.toInt = (w : Int)) (σ : qσ) : qsF σ (qr0 mD adr) (rLo st.length w, []) lv [] := by
  subst hlv
  refine ⟨⟨⟨rfl, .inr (.inr (.inr ⟨rfl, a0, rfl, ?_⟩))⟩, ⟨rfl, .inr (.inl ⟨rfl, D1, rfl, hD1⟩)⟩, ⟨rfl, .inr (.inl ⟨rfl, W1, rfl, hW1⟩)⟩, trivial⟩, trivial⟩
  show qr0 mD adr 0 = some a0
  unfold qr0
  rw [if_pos (by decide)]
  exact ha0
theorem r_oM {st : List Nat} {ws : va_W} {σ : qσ} (hst : st ∈ wAll) (hO : ∀ n k av, (n, k, av) ∈ oB st → qval ws (n, k, 0, 0) = some av.2.2) {n k : Nat} {av : AV} (h : (n, k, av) ∈ oB st) : n < mD.2.2 ∧ ∃ (x : Int) (i : Nat), qval ws (n, i, 0, 0) = some x ∧ qvl σ av = some x ∧ qix σ k i := by
  obtain ⟨q1, q2, q3⟩ := o_Bn h
  have hs5 : st.length ≤ 5 := Nat.ble_eq.mp (List.all_eq_true.mp w_len st hst)
  refine ⟨by rw [q1]; decide, av.2.2, k, hO n k av h, ?_, .inl ⟨by omega, rfl⟩⟩
  unfold qvl
  rw [if_neg (by omega), if_pos q3]
theorem r_app {st : List Nat} {ws : va_W} {σ : qσ} {ρ : qρ} {mem : List (Nat × Nat × AV)} (hst : st ∈ wAll) (hM : qsM mD γ adr σ ρ ([], mem ++ [], []) ws) (hO : oX st ws) : qsM mD γ adr σ ρ ([], mem ++ oB st, []) ws := by
  rw [List.append_nil] at hM
  refine ⟨hM.1, hM.2.1, hM.2.2.1, fun n k av hm => ?_, hM.2.2.2.2⟩
  rcases List.mem_append.mp hm with h | h
  · exact hM.2.2.2.1 n k av h
  · obtain ⟨h1, x, i, h2, h3, h4⟩ := r_oM (σ := σ) hst hO h
    simp only [qval] at h2
    split at h2
    · rename_i c hc
      split at h2
      · rename_i y hy
        cases h2
        have ha : adr[n]? = some c.1 := by rw [← hM.2.2.2.2.1, List.getElem?_map, hc]; rfl
        refine ⟨n, c.1, c.2, .int y, i, hc, by rw [hM.1 n h1]; exact ha, hy, ?_, h4⟩
        unfold qvl at h3
        split at h3
        · rename_i h0
          rw [Option.map_eq_some_iff] at h3
          obtain ⟨u, u1, u2⟩ := h3
          exact .inl ⟨h0, y, u, rfl, u1, u2.symm⟩
        · split at h3
          · rename_i h0
            exact .inr (.inl ⟨h0, y, rfl, (Option.some.inj h3).symm⟩)
          · cases h3
      · cases h2
    · cases h2
theorem r_oG {st : List Nat} {ws : va_W} {σ : qσ} {ρ : qρ} {M : qM} (hM : qsM mD γ adr σ ρ M ws) (hdis : ∀ (i j : Nat) (p q : Nat × va_E), ws[i]? = some p → ws[j]? = some q → p.1 = q.1 → i = j) (hst : st ∈ wAll) (hsub : ∀ q ∈ oB st, q ∈ M.2.1) : ∀ n k av, (n, k, av) ∈ oB st → qval ws (n, k, 0, 0) = some av.2.2 := by
  intro n k av hm
  obtain ⟨q1, q2, q3⟩ := o_Bn hm
  have hs6 : st.length ≤ 5 := Nat.ble_eq.mp (List.all_eq_true.mp w_len st hst)
  obtain ⟨z, z1, z2⟩ := q_gvM hM hdis (n := n) (k := k) (av := av) (by rw [q1]; decide) (by omega) (by unfold qint; rw [q3]; rfl) (hsub _ hm)
  rw [z1]
  unfold qvl at z2
  rw [if_neg (by omega), if_pos q3] at z2
  exact z2.symm
theorem q_H00 {D : qWd} {γ : kΓ} {adr : List Nat} {σ : qσ} {ρ : qρ} {r m : List (Nat × Nat × AV)} {rn : List Nat} {ws : va_W} (hM : qsM D γ adr σ ρ (rn, m, []) ws) : qH D γ adr (fun _ _ => False) ws := by
  refine ⟨hM.2.2.2.2.1, hM.2.2.2.2.2.1, fun q g a c hg hc => ?_⟩
  obtain ⟨r, r1, r2, r3⟩ := hM.2.2.2.2.2.2 q g a c hg hc
  exact ⟨r, r1, r2, fun k hk => (r3 k hk).elim (fun ⟨n', z1, _⟩ => by cases z1) .inr⟩
/-- nothing more comes: it fails -/
theorem r_z (hF : rFix γ p l e R s m args below meth cd Q A adr w0 a0 f E0 E1 E2 E3 E4) {st : List Nat} (hst : st ∈ wAll) {w : Nat} (hw2 : w < 2) {ls : Array Slot} {ws : va_W} {H : Heap} {locs : List Loc} {D1 W1 : Int32} {pl bg : Int} (hw : kW γ A ws s H locs) (hl : lv_has ls 6 [(0, .ref a0), (1, .int D1), (2, .int W1)]) (hD1 : D1.toInt = (st.length : Int)) (hW1 : W1.toInt = (w : Int)) (hH : qH mD γ adr (fun _ _ => False) ws) (hx : rX f (mGet w0 11) st ws) (hK : qK mD mn_29.2.2.2.2.2 w0 ws)
    (v0 : qval ws (0, 3, 0, 0) = some E0.toInt) (v1 : qval ws (0, 4, 0, 0) = some pl) (v2 : qval ws (0, 5, 0, 0) = some bg) (v3 : qval ws (0, 6, 0, 0) = some 0) (b1 : 1 ≤ pl ∧ pl ≤ 1000) (b2 : 0 ≤ bg ∧ bg ≤ 1000) (b3 : pl ≤ E0.toInt ∧ bg ≤ pl ∧ E1.toInt ≤ pl ∧ E2.toInt ≤ bg) (hO : ∀ n k av, (n, k, av) ∈ oB st → qval ws (n, k, 0, 0) = some av.2.2) : W p l e R s m args below meth cd H locs 0 0 Q (F0 m 11 ls []) := by
  have hF' := hF
  obtain ⟨hB, hR, hret, ha0, -, ⟨i0, i1, i2, i3, i4⟩⟩ := hF'
  have hs5 : st.length ≤ 5 := Nat.ble_eq.mp (List.all_eq_true.mp w_len st hst)
  have hc := r_dp hs5
  unfold rchk1 at hc
  rw [Bool.and_eq_true] at hc
  have hcR := hc.2
  have hw01 : w ∈ ([0, 1] : List Nat) := by
    have : w = 0 ∨ w = 1 := by omega
    rcases this with rfl | rfl <;> decide
  have hc := List.all_eq_true.mp hc.1 w hw01
  rw [Bool.and_eq_true] at hc
  have hc := hc.2
  unfold rRun at hc
  refine q_seg (σ := qsl [E0.toInt, E1.toInt, E2.toInt, E3.toInt, E4.toInt, pl, bg]) (ρ := qr0 mD adr) (av := [.ref a0]) hB (q_Dok mDok) (X := fun w => rX f (mGet w0 11) st w ∧ oX st w) (r_ms st.length) (o_xok adr) mtk_RX12 (o_con γ l) hR pk_X12_reads (r_en hF rfl rfl rfl rfl rfl) (r_ret hF st _) hc (fun k hk => by cases hk) hw hl ?_ (r_hd st w D1 W1 rfl ha0 hD1 hW1 _) ?_ ⟨hx, hO⟩ hK
  · refine q_Nof ⟨i0, i1, i2, i3, i4, b1, b2, trivial⟩ (fun a b d hm => ?_)
    simp only [List.mem_cons, List.mem_nil_iff, or_false, Prod.mk.injEq] at hm
    rcases hm with ⟨rfl, rfl, rfl⟩ | ⟨rfl, rfl, rfl⟩ | ⟨rfl, rfl, rfl⟩ | ⟨rfl, rfl, rfl⟩
    · exact ⟨_, _, rfl, rfl, by omega⟩
    · exact ⟨_, _, rfl, rfl, by omega⟩
    · exact ⟨_, _, rfl, rfl, by omega⟩
    · exact ⟨_, _, rfl, rfl, by omega⟩
  · refine q_Mof hH (fun n k av hm => ?_)
    simp only [List.mem_cons, List.mem_nil_iff, or_false, Prod.mk.injEq] at hm
    rcases hm with ⟨rfl, rfl, rfl⟩ | ⟨rfl, rfl, rfl⟩ | ⟨rfl, rfl, rfl⟩ | ⟨rfl, rfl, rfl⟩
    · exact ⟨by decide, _, 3, v0, by simp [qvl, qsl], .inl ⟨by decide, rfl⟩⟩
    · exact ⟨by decide, _, 4, v1, by simp [qvl, qsl], .inl ⟨by decide, rfl⟩⟩
    · exact ⟨by decide, _, 5, v2, by simp [qvl, qsl], .inl ⟨by decide, rfl⟩⟩
    · exact ⟨by decide, _, 6, v3, by simp [qvl], .inl ⟨by decide, rfl⟩⟩
def rHd (γ : kΓ) (A : Nat → Prop) (s : State) (adr : List Nat) (w0 : va_W) (a0 f : Nat) (E0 E1 E2 : Int32) (st : List Nat) (w : Nat) (ls : Array Slot) (ws : va_W) (H : Heap) (locs : List Loc) (pl : Int) : Prop :=
  st ∈ wAll ∧ w < 2 ∧ kW γ A ws s H locs ∧ qH mD γ adr (fun _ _ => False) ws ∧ rX f (mGet w0 11) st ws ∧ qK mD mn_29.2.2.2.2.2 w0 ws ∧ (∀ n k av, (n, k, av) ∈ oB st → qval ws (n, k, 0, 0) = some av.2.2) ∧ ∃ (D1 W1 : Int32) (bg tk cv : Int), lv_has ls 6 [(0, .ref a0), (1, .int D1), (2, .int W1)] ∧ D1.toInt = (st.length : Int) ∧ W1.toInt = (w : Int) ∧
    qval ws (0, 3, 0, 0) = some E0.toInt ∧ qval ws (0, 4, 0, 0) = some pl ∧ qval ws (0, 5, 0, 0) = some bg ∧ qval ws (0, 6, 0, 0) = some tk ∧ qval ws (0, 20, 0, 0) = some cv ∧ (1 ≤ pl ∧ pl ≤ 1000) ∧ (0 ≤ bg ∧ bg ≤ 999) ∧ (1 ≤ tk ∧ tk ≤ 4) ∧ (1000 ≤ cv ∧ cv ≤ 2000) ∧ pl ≤ E0.toInt ∧ bg + 1 ≤ pl ∧ cv + (-1000) ≤ bg ∧ E1.toInt ≤ pl ∧ E2.toInt ≤ bg
/-- what a state at the head says, in numbers -/
theorem r_gv {D : qWd} {γ : kΓ} {adr : List Nat} {σ : qσ} {ρ : qρ} {M : qM} {ws : va_W} (hM : qsM D γ adr σ ρ M ws) (hdis : ∀ (i j : Nat) (p q : Nat × va_E), ws[i]? = some p → ws[j]? = some q → p.1 = q.1 → i = j) {n k v : Nat} {u : Int} (hn : n < D.2.2) (hk : k < 10000) (hm : (n, k, ((0, v, 0) : AV)) ∈ M.2.1) (hu : σ v = some u) : qval ws (n, k, 0, 0) = some u := by
  obtain ⟨x, x1, x2⟩ := q_gvM hM hdis hn hk rfl hm
  simp only [qvl, if_pos, hu, Option.map_some, Option.some.injEq, Int.add_zero] at x2
  rw [x1, ← x2]
theorem r_st (hF : rFix γ p l e R s m args below meth cd Q A adr w0 a0 f E0 E1 E2 E3 E4) {pl : Int} (ih : ∀ (pl' : Int) (st : List Nat) (w : Nat) (ls : Array Slot) (ws : va_W) (H : Heap) (locs : List Loc), pl < pl' → rHd γ A s adr w0 a0 f E0 E1 E2 st w ls ws H locs pl' → W p l e R s m args below meth cd H locs 0 0 Q (F0 m 11 ls [])) {st : List Nat} {w : Nat} {ls : Array Slot} {ws : va_W} {H : Heap} {locs : List Loc} (h : rHd γ A s adr w0 a0 f E0 E1 E2 st w ls ws H locs pl) : W p l e R s m args below meth cd H locs 0 0 Q (F0 m 11 ls []) := by
  obtain ⟨hst, hw2, hw, hH, hx, hK, hO, D1, W1, bg, tk, cv, hl, hD1, hW1, v0, v1, v2, v3, v4, b1, b2, b3, b4, c1, c2, c3, c4, c5⟩ := h
  have hF' := hF
  obtain ⟨hB, hR, hret, ha0, -, ⟨i0, i1, i2, i3, i4⟩⟩ := hF'
  have hs5 : st.length ≤ 5 := Nat.ble_eq.mp (List.all_eq_true.mp w_len st hst)
  have hc := r_dp hs5
  unfold rchk1 at hc
  rw [Bool.and_eq_true] at hc
  have hcR := hc.2
  have hw01 : w ∈ ([0, 1] : List Nat) := by
    have : w = 0 ∨ w = 1 := by omega
    rcases this with rfl | rfl <;> decide
  have hc := List.all_eq_true.mp hc.1 w hw01
  rw [Bool.and_eq_true] at hc
  have hc := hc.1
  unfold rRun at hc
  refine q_seg (σ := qsl [E0.toInt, E1.toInt, E2.toInt, E3.toInt, E4.toInt, pl, bg, tk, cv]) (ρ := qr0 mD adr) (av := [.ref a0]) hB (q_Dok mDok) (X := fun w => rX f (mGet w0 11) st w ∧ oX st w) (r_ms st.length) (o_xok adr) mtk_RX12 (o_con γ l) hR pk_X12_reads (r_en hF rfl rfl rfl rfl rfl) (r_ret hF st _) hc ?_ hw hl ?_ (r_hd st w D1 W1 rfl ha0 hD1 hW1 _) ?_ ⟨hx, hO⟩ hK
  · intro k hk
    unfold rCu at hk
    rw [List.mem_map] at hk
    obtain ⟨q, hq, rfl⟩ := hk
    rw [List.mem_filter] at hq
    obtain ⟨hq1, hq2⟩ := hq
    simp only [Bool.and_eq_true, beq_iff_eq] at hq2
    have hcall := List.all_eq_true.mp hcR q hq1
    rw [hq2.2] at hcall
    have hcall : rCall st.length q = true := by simpa using hcall
    have hq3 := hq2.2
    rw [r_ok st hq1] at hq3
    obtain ⟨s', hs'⟩ := Option.isSome_iff_exists.mp hq3
    have hc2 := r_all hst
    unfold rchk2 at hc2
    have hc2 := List.all_eq_true.mp hc2 q hq1
    rw [hs'] at hc2
    simp only [Bool.and_eq_true] at hc2
    obtain ⟨hs3, hrun2⟩ := hc2
    have hs3 : s' ∈ wAll := by simpa using hs3
    obtain ⟨k1, k2, k3, k4, k5⟩ := r_kq hq1
    intro σ2 ρ2 lv2 st2 ls2 ws2 H2 locs2 hw' hl' hN' hF2 hM' hx' hK' hσ
    unfold rCall at hcall
    refine q_segC (σ := σ2) (ρ := ρ2) (X := fun w => rX f (mGet w0 11) st w ∧ oX st w) (X' := fun r w => (r = none ∧ rX f (mGet w0 11) s' w) ∧ oX st w) hB (q_Dok mDok) mtk_RX12 (q_f1 (q_fr2 o_dep rfl (r_puts γ l (fun c hc => (k5 st c hc).trans hs') k2 k3)) q_f0) hR pk_X12_reads k1 hcall ?_ hw' hl' hN' hF2 hM' hx' hK'
    intro k hk
    rw [List.mem_singleton] at hk
    subst hk
    intro σ3 ρ3 lv3 r st3 ls3 ws3 H3 locs3 hw3 hl3 hN3 hF3 hM3 hX3 hK3 hσ3
    obtain ⟨⟨hr, hx3⟩, ho3⟩ := hX3
    subst hr
    have hst3 : st3 = [] := q_l0 hF3.2
    subst hst3
    have e0 := hσ3 0 _ (by decide) (hσ 0 _ (by decide) rfl)
    have e1 := hσ3 1 _ (by decide) (hσ 1 _ (by decide) rfl)
    have e2 := hσ3 2 _ (by decide) (hσ 2 _ (by decide) rfl)
    have e3 := hσ3 3 _ (by decide) (hσ 3 _ (by decide) rfl)
    have e4 := hσ3 4 _ (by decide) (hσ 4 _ (by decide) rfl)
    have e5 := hσ3 5 _ (by decide) (hσ 5 _ (by decide) rfl)
    unfold rRun at hrun2
    refine q_seg (σ := σ3) (ρ := ρ3) (av := [.ref a0]) hB (q_Dok mDok) (r_ms s'.length) (r_xok adr) mtk_RX12 (r_con γ l) hR pk_X12_reads (r_en hF e0 e1 e2 e3 e4) (hret s' σ3) hrun2 ?_ hw3 hl3 hN3 hF3 (r_app hst hM3 ho3) hx3 hK3
    intro k hk
    have hW2 : rW q < 2 := by unfold rW; split <;> omega
    rcases List.mem_cons.mp hk with hk | hk
    · subst hk
      intro σ4 ρ4 lv4 st4 ls4 ws4 H4 locs4 hw4 hl4 hN4 hF4 hM4 hx4 hK4 hσ4
      have hst4 := q_l0 hF4.2
      subst hst4
      obtain ⟨⟨j0, y0⟩, ⟨j1, y1⟩, ⟨j2, y2⟩, rfl, ⟨z0, r0⟩, ⟨z1, r1⟩, ⟨z2, r2⟩⟩ := q_l3 hF4.1
      simp only at z0 z1 z2
      subst z0; subst z1; subst z2
      obtain ⟨b, rfl, hb⟩ := q_r3 r0
      obtain ⟨D2, rfl, hD2⟩ := q_r1 r1
      obtain ⟨W2, rfl, hW3⟩ := q_r1 r2
      have hb2 : b = a0 := by
        have := hM4.1 0 (by decide)
        rw [hb, ha0] at this
        exact Option.some.inj this
      subst hb2
      have f0 := hσ4 0 _ (by decide) e0
      have f1 := hσ4 1 _ (by decide) e1
      have f2 := hσ4 2 _ (by decide) e2
      have f5 := hσ4 5 _ (by decide) e5
      obtain ⟨p9, g9, n9⟩ := hN4.2.1 9 (1, 1000) rfl
      obtain ⟨p10, g10, n10⟩ := hN4.2.1 10 (0, 999) rfl
      obtain ⟨p11, g11, n11⟩ := hN4.2.1 11 (1, 4) rfl
      obtain ⟨p8, g8, n8⟩ := hN4.2.1 8 (1001, 2000) rfl
      have n9 : 1 ≤ p9 ∧ p9 ≤ 1000 := n9
      have n10 : 0 ≤ p10 ∧ p10 ≤ 999 := n10
      have n11 : 1 ≤ p11 ∧ p11 ≤ 4 := n11
      have n8 : 1001 ≤ p8 ∧ p8 ≤ 2000 := n8
      have rl : ∀ (a b : Nat) (d : Int), (a, b, d) ∈ [(0, 9, 0), (9, 10, 1), (10, 8, -1000), (9, 1, 0), (10, 2, 0), (9, 5, 1)] → ∃ x y, σ4 a = some x ∧ σ4 b = some y ∧ y + d ≤ x := fun a b d h => hN4.2.2.1 a b d h
      obtain ⟨_, _, h1, h2, h3⟩ := rl 0 9 0 (by decide)
      rw [f0] at h1; rw [g9] at h2; cases h1; cases h2
      obtain ⟨_, _, h4, h5, h6⟩ := rl 9 10 1 (by decide)
      rw [g9] at h4; rw [g10] at h5; cases h4; cases h5
      obtain ⟨_, _, h7, h8, h9⟩ := rl 10 8 (-1000) (by decide)
      rw [g10] at h7; rw [g8] at h8; cases h7; cases h8
      obtain ⟨_, _, h10, h11, h12⟩ := rl 9 1 0 (by decide)
      rw [g9] at h10; rw [f1] at h11; cases h10; cases h11
      obtain ⟨_, _, h13, h14, h15⟩ := rl 10 2 0 (by decide)
      rw [g10] at h13; rw [f2] at h14; cases h13; cases h14
      obtain ⟨_, _, h16, h17, h18⟩ := rl 9 5 1 (by decide)
      rw [g9] at h16; rw [f5] at h17; cases h16; cases h17
      refine ih _ s' (rW q) ls4 ws4 H4 locs4 (by omega) ⟨hs3, hW2, hw4, q_H00 hM4 (r := []), hx4, hK4, r_oG hM4 hw4.2.1.1 hs3 (fun q hq => List.mem_append_right _ hq), D2, W2, _, _, _, hl4, hD2, hW3, r_gv hM4 hw4.2.1.1 (by decide) (by decide) (.head _) f0, r_gv hM4 hw4.2.1.1 (by decide) (by decide) (.tail _ (.head _)) g9, r_gv hM4 hw4.2.1.1 (by decide) (by decide) (.tail _ (.tail _ (.head _))) g10, r_gv hM4 hw4.2.1.1 (by decide) (by decide) (.tail _ (.tail _ (.tail _ (.head _)))) g11, r_gv hM4 hw4.2.1.1 (by decide) (by decide) (.tail _ (.tail _ (.tail _ (.tail _ (.head _))))) g8, n9, n10, n11, ?_, ?_, ?_, ?_, ?_, ?_⟩ <;> omega
    · rw [List.mem_singleton] at hk
      subst hk
      intro σ4 ρ4 lv4 st4 ls4 ws4 H4 locs4 hw4 hl4 hN4 hF4 hM4 hx4 hK4 hσ4
      have hst4 := q_l0 hF4.2
      subst hst4
      obtain ⟨⟨j0, y0⟩, ⟨j1, y1⟩, ⟨j2, y2⟩, rfl, ⟨z0, r0⟩, ⟨z1, r1⟩, ⟨z2, r2⟩⟩ := q_l3 hF4.1
      simp only at z0 z1 z2
      subst z0; subst z1; subst z2
      obtain ⟨b, rfl, hb⟩ := q_r3 r0
      obtain ⟨D2, rfl, hD2⟩ := q_r1 r1
      obtain ⟨W2, rfl, hW3⟩ := q_r1 r2
      have hb2 : b = a0 := by
        have := hM4.1 0 (by decide)
        rw [hb, ha0] at this
        exact Option.some.inj this
      subst hb2
      have f0 := hσ4 0 _ (by decide) e0
      have f1 := hσ4 1 _ (by decide) e1
      have f2 := hσ4 2 _ (by decide) e2
      obtain ⟨p9, g9, n9⟩ := hN4.2.1 9 (1, 1000) rfl
      obtain ⟨p10, g10, n10⟩ := hN4.2.1 10 (0, 1000) rfl
      have n9 : 1 ≤ p9 ∧ p9 ≤ 1000 := n9
      have n10 : 0 ≤ p10 ∧ p10 ≤ 1000 := n10
      have rl : ∀ (a b : Nat) (d : Int), (a, b, d) ∈ [(0, 9, 0), (9, 10, 0), (9, 1, 0), (10, 2, 0)] → ∃ x y, σ4 a = some x ∧ σ4 b = some y ∧ y + d ≤ x := fun a b d h => hN4.2.2.1 a b d h
      obtain ⟨_, _, h1, h2, h3⟩ := rl 0 9 0 (by decide)
      rw [f0] at h1; rw [g9] at h2; cases h1; cases h2
      obtain ⟨_, _, h4, h5, h6⟩ := rl 9 10 0 (by decide)
      rw [g9] at h4; rw [g10] at h5; cases h4; cases h5
      obtain ⟨_, _, h10, h11, h12⟩ := rl 9 1 0 (by decide)
      rw [g9] at h10; rw [f1] at h11; cases h10; cases h11
      obtain ⟨_, _, h13, h14, h15⟩ := rl 10 2 0 (by decide)
      rw [g10] at h13; rw [f2] at h14; cases h13; cases h14
      obtain ⟨x6, x61, x62⟩ := q_gvM hM4 hw4.2.1.1 (n := 0) (k := 6) (av := (1, 0, 0)) (by decide) (by decide) rfl (.tail _ (.tail _ (.tail _ (.head _))))
      have x62 : (0 : Int) = x6 := Option.some.inj x62
      subst x62
      exact r_z hF hs3 hW2 hw4 hl4 hD2 hW3 (q_H00 hM4 (r := [])) hx4 hK4 (r_gv hM4 hw4.2.1.1 (by decide) (by decide) (.head _) f0) (r_gv hM4 hw4.2.1.1 (by decide) (by decide) (.tail _ (.head _)) g9) (r_gv hM4 hw4.2.1.1 (by decide) (by decide) (.tail _ (.tail _ (.head _))) g10) x61 n9 n10 ⟨by omega, by omega, by omega, by omega⟩ (r_oG hM4 hw4.2.1.1 hs3 (fun q hq => List.mem_append_right _ hq))
  · refine q_Nof ⟨i0, i1, i2, i3, i4, b1, b2, b3, b4, trivial⟩ (fun a b d hm => ?_)
    unfold rRe at hm
    simp only [List.mem_cons, List.mem_nil_iff, or_false, Prod.mk.injEq] at hm
    rcases hm with ⟨rfl, rfl, rfl⟩ | ⟨rfl, rfl, rfl⟩ | ⟨rfl, rfl, rfl⟩ | ⟨rfl, rfl, rfl⟩ | ⟨rfl, rfl, rfl⟩
    · exact ⟨_, _, rfl, rfl, by omega⟩
    · exact ⟨_, _, rfl, rfl, by omega⟩
    · exact ⟨_, _, rfl, rfl, by omega⟩
    · exact ⟨_, _, rfl, rfl, by omega⟩
    · exact ⟨_, _, rfl, rfl, by omega⟩
  · refine q_Mof hH (fun n k av hm => ?_)
    unfold rMe at hm
    simp only [List.mem_cons, List.mem_nil_iff, or_false, Prod.mk.injEq] at hm
    rcases hm with ⟨rfl, rfl, rfl⟩ | ⟨rfl, rfl, rfl⟩ | ⟨rfl, rfl, rfl⟩ | ⟨rfl, rfl, rfl⟩ | ⟨rfl, rfl, rfl⟩
    · exact ⟨by decide, _, 3, v0, by simp [qvl, qsl], .inl ⟨by decide, rfl⟩⟩
    · exact ⟨by decide, _, 4, v1, by simp [qvl, qsl], .inl ⟨by decide, rfl⟩⟩
    · exact ⟨by decide, _, 5, v2, by simp [qvl, qsl], .inl ⟨by decide, rfl⟩⟩
    · exact ⟨by decide, _, 6, v3, by simp [qvl, qsl], .inl ⟨by decide, rfl⟩⟩
    · exact ⟨by decide, _, 20, v4, by simp [qvl, qsl], .inl ⟨by decide, rfl⟩⟩
theorem r_loop (hF : rFix γ p l e R s m args below meth cd Q A adr w0 a0 f E0 E1 E2 E3 E4) : ∀ (n : Nat) (pl : Int) (st : List Nat) (w : Nat) (ls : Array Slot) (ws : va_W) (H : Heap) (locs : List Loc), (1000 - pl).toNat ≤ n → rHd γ A s adr w0 a0 f E0 E1 E2 st w ls ws H locs pl → W p l e R s m args below meth cd H locs 0 0 Q (F0 m 11 ls [])
  | 0, pl, st, w, ls, ws, H, locs, hn, h => r_st hF (fun pl' st w ls ws H locs hlt h' => by
      obtain ⟨-, -, -, -, -, -, -, D1, W1, bg, tk, cv, -, -, -, -, -, -, -, -, b1, -⟩ := h'
      exfalso; omega) h
  | n + 1, pl, st, w, ls, ws, H, locs, hn, h => r_st hF (fun pl' st w ls ws H locs hlt h' => r_loop hF n pl' st w ls ws H locs (by
      obtain ⟨-, -, -, -, -, -, -, D1, W1, bg, tk, cv, -, -, -, -, -, -, -, -, b1, -⟩ := h'
      omega) h') h
end RD
theorem q_v32 {ws : va_W} {f : qFa} {x : Int} (h : qval ws f = some x) : ∃ X : Int32, x = X.toInt := by
  unfold qval at h
  split at h
  · split at h
    · rename_i y _
      exact ⟨y, (Option.some.inj h).symm⟩
    · cases h
  · cases h
theorem m_reads (γ : kΓ) (l : Launch) (f : Nat) (c0 : Nat → Int) : qSem2 γ l mD (fun ws => mGet ws 0 20 = (f : Int) ∧ ∀ i, i < f → mGet ws 11 i = c0 i) (fun r w => ∃ st, rX f c0 st w ∧ (r = some (.int 1) → st = [])) mMT mn_29 := by
  refine ⟨_, rfl, fun adr ws av hp => ?_⟩
  obtain ⟨p1, ⟨pc, pcc⟩, p3, p4, p5⟩ := hp
  match av, p3 with
  | [v0], ⟨hv0, _⟩ =>
    obtain ⟨a0, rfl, ha0⟩ := hv0.2.2 rfl
    have ha : adr[0]? = some a0 := by
      rcases ha0 with ⟨h1, -⟩ | ⟨q, h1, h2⟩
      · exact absurd h1 (by decide)
      · have := (q_Dok mDok).2.2.1 q 0 h1 (by decide)
        rw [← this]; exact h2
    obtain ⟨x0, g0, n0⟩ := p4 (0, 3, 1, 1000) (.head _)
    obtain ⟨x1, g1, n1⟩ := p4 (0, 4, 1, 1000) (.tail _ (.head _))
    obtain ⟨x2, g2, n2⟩ := p4 (0, 5, 0, 999) (.tail _ (.tail _ (.head _)))
    obtain ⟨x3, g3, n3⟩ := p4 (0, 6, 1, 4) (.tail _ (.tail _ (.tail _ (.head _))))
    obtain ⟨x4, g4, n4⟩ := p4 (0, 20, 1000, 2000) (.tail _ (.tail _ (.tail _ (.tail _ (.head _)))))
    obtain ⟨E0, rfl⟩ := q_v32 g0
    obtain ⟨E1, rfl⟩ := q_v32 g1
    obtain ⟨E2, rfl⟩ := q_v32 g2
    obtain ⟨E3, rfl⟩ := q_v32 g3
    obtain ⟨E4, rfl⟩ := q_v32 g4
    obtain ⟨_, _, h1, h2, h3⟩ := p5 (0, 1, 0) (.head _)
    obtain ⟨_, _, h4, h5, h6⟩ := p5 (1, 2, 1) (.tail _ (.head _))
    obtain ⟨_, _, h7, h8, h9⟩ := p5 (2, 4, -1000) (.tail _ (.tail _ (.head _)))
    have h1 : qval ws (0, 3, 1, 1000) = some _ := h1
    have h2 : qval ws (0, 4, 1, 1000) = some _ := h2
    have h4 : qval ws (0, 4, 1, 1000) = some _ := h4
    have h5 : qval ws (0, 5, 0, 999) = some _ := h5
    have h7 : qval ws (0, 5, 0, 999) = some _ := h7
    have h8 : qval ws (0, 20, 1000, 2000) = some _ := h8
    rw [g0] at h1; cases h1
    rw [g1] at h2; cases h2
    rw [g1] at h4; cases h4
    rw [g2] at h5; cases h5
    rw [g2] at h7; cases h7
    rw [g4] at h8; cases h8
    have hcode : mGet ws 0 20 = E4.toInt := m_gv (x := E4.toInt) g4
    have n4 : 1000 ≤ E4.toInt ∧ E4.toInt ≤ 2000 := n4
    have hx0 : rX f (mGet ws 11) [] ws := ⟨by omega, by omega, fun _ _ => rfl, by rw [pc, Int.sub_self]; rfl⟩
    refine k_ofW (by decide) (by show 1 ≤ _; decide) ?_
    intro p e s m below meth cd A ls hC hr hlocks hname hw hl
    have mono : ∀ (st : List Nat) (r : Option Value) (w1 : va_W), qPost mD γ (rX f (mGet ws 11) st) (rC st.length) adr ws [.ref a0] r w1 → qPost mD γ (fun w => ∃ st, rX f c0 st w ∧ (r = some (.int 1) → st = [])) mn_29 adr ws [.ref a0] r w1 := by
      intro st r w1 hq
      have cv : ∀ st, rX f (mGet ws 11) st w1 → rX f c0 st w1 := fun st h => ⟨h.1, h.2.1, fun i hi => (h.2.2.1 i hi).trans (pcc i hi), h.2.2.2⟩
      match st, hq with
      | [], ⟨q1, q2, q3, t, t1, t2⟩ => exact ⟨q1, ⟨[], cv _ q2, fun _ => rfl⟩, q3, t, t1, t2⟩
      | a :: b, ⟨q1, q2, q3, t, t1, t2⟩ =>
        have t1 := List.mem_singleton.mp t1
        subst t1
        refine ⟨q1, ⟨a :: b, cv _ q2, fun hr => ?_⟩, q3, _, .head _, t2⟩
        obtain ⟨z, v, e1, e2, e3⟩ := t2.1.elim (fun h => by cases h.1) id
        cases e1
        obtain ⟨x, rfl, hx⟩ := e3.1 rfl
        rw [hr] at e2
        cases e2
        have hx : (0 : Int) ≤ (1 : Int32).toInt ∧ (1 : Int32).toInt ≤ 0 := hx
        exact absurd hx.2 (by decide)
    have hret : ∀ (st : List Nat) (σ : qσ), qRt (γ, p, l, e, { frames := mn_29.1.2.1, cells := 0, slots := 0, locals := mn_29.1.2.2 }, s, m, [Value.ref a0].toArray, below, meth, cd, MQ below (kQ γ A (fun r w1 => qPost mD γ (fun w => ∃ st, rX f c0 st w ∧ (r = some (.int 1) → st = [])) mn_29 adr ws [.ref a0] r w1)) [Value.ref a0].toArray s 0 0 A, (cX12_reads, 6, RX12), A, mD, adr, rX f (mGet ws 11) st, mn_29.2.2.2.2.2, ws, σ) 2 (qPost mD γ (rX f (mGet ws 11) st) (rC st.length) adr ws [.ref a0]) := by
      intro st σ
      exact q_rtX (q_rt (D := mD) (adr := adr) (X := rX f (mGet ws 11) st) (ms := mn_29.2.2.2.2.2) (w0 := ws) hC hlocks hr (rk := 2) (.inr (.inr (.inl ⟨rfl, rfl⟩))) σ) (mono st)
    have hF : rFix γ p l e { frames := mn_29.1.2.1, cells := 0, slots := 0, locals := mn_29.1.2.2 } s m [Value.ref a0].toArray below meth cd (MQ below (kQ γ A (fun r w1 => qPost mD γ (fun w => ∃ st, rX f c0 st w ∧ (r = some (.int 1) → st = [])) mn_29 adr ws [.ref a0] r w1)) [Value.ref a0].toArray s 0 0 A) A adr ws a0 f E0 E1 E2 E3 E4 := ⟨hC, ⟨Nat.le_refl _, Nat.le_refl _⟩, hret, ha, ⟨g0, g1, g2, g3, g4⟩, n0, n1, n2, n3, n4⟩
    have hc := r_e
    unfold rRun at hc
    refine q_seg (σ := qsl [E0.toInt, E1.toInt, E2.toInt, E3.toInt, E4.toInt]) (ρ := qr0 mD adr) (av := [.ref a0]) (lv := lv_args 0 [Value.ref a0]) (X := fun w => rX f (mGet ws 11) [] w ∧ oX [] w) hC (q_Dok mDok) (r_ms 0) (o_xok adr) mtk_RX12 (o_con γ l) ⟨Nat.le_refl _, Nat.le_refl _⟩ pk_X12_reads (r_en hF rfl rfl rfl rfl rfl) (r_ret hF [] _) hc ?_ hw hl ?_ ?_ ?_ ⟨hx0, fun n k av h => (by cases h)⟩ (fun q g a c a' c' _ h1 h2 k _ => by rw [h1] at h2; cases h2; rfl)
    · intro k hk
      rw [List.mem_singleton] at hk
      subst hk
      intro σ4 ρ4 lv4 st4 ls4 ws4 H4 locs4 hw4 hl4 hN4 hF4 hM4 hx4 hK4 hσ4
      have hst4 := q_l0 hF4.2
      subst hst4
      obtain ⟨⟨j0, y0⟩, ⟨j1, y1⟩, ⟨j2, y2⟩, rfl, ⟨z0, r0⟩, ⟨z1, r1⟩, ⟨z2, r2⟩⟩ := q_l3 hF4.1
      simp only at z0 z1 z2
      subst z0; subst z1; subst z2
      obtain ⟨b, rfl, hb⟩ := q_r3 r0
      obtain ⟨D2, rfl, hD2⟩ := q_r1 r1
      obtain ⟨W2, rfl, hW3⟩ := q_r1 r2
      have hb2 : b = a0 := by
        have := hM4.1 0 (by decide)
        rw [hb, ha] at this
        exact Option.some.inj this
      subst hb2
      have f0 := hσ4 0 _ (by decide) rfl
      have f1 := hσ4 1 _ (by decide) rfl
      have f2 := hσ4 2 _ (by decide) rfl
      obtain ⟨p5', g5, n5⟩ := hN4.2.1 5 (1, 1000) rfl
      obtain ⟨p6, g6, n6⟩ := hN4.2.1 6 (0, 999) rfl
      obtain ⟨p7, g7, n7⟩ := hN4.2.1 7 (1, 4) rfl
      obtain ⟨p8, g8, n8⟩ := hN4.2.1 8 (1000, 2000) rfl
      have n5 : 1 ≤ p5' ∧ p5' ≤ 1000 := n5
      have n6 : 0 ≤ p6 ∧ p6 ≤ 999 := n6
      have n7 : 1 ≤ p7 ∧ p7 ≤ 4 := n7
      have n8 : 1000 ≤ p8 ∧ p8 ≤ 2000 := n8
      have rl : ∀ (a b : Nat) (d : Int), (a, b, d) ∈ rRe → ∃ x y, σ4 a = some x ∧ σ4 b = some y ∧ y + d ≤ x := fun a b d h => hN4.2.2.1 a b d h
      obtain ⟨_, _, q1, q2, q3⟩ := rl 0 5 0 (by decide)
      rw [f0] at q1; rw [g5] at q2; cases q1; cases q2
      obtain ⟨_, _, q4, q5, q6⟩ := rl 5 6 1 (by decide)
      rw [g5] at q4; rw [g6] at q5; cases q4; cases q5
      obtain ⟨_, _, q7, q8, q9⟩ := rl 6 8 (-1000) (by decide)
      rw [g6] at q7; rw [g8] at q8; cases q7; cases q8
      obtain ⟨_, _, q10, q11, q12⟩ := rl 5 1 0 (by decide)
      rw [g5] at q10; rw [f1] at q11; cases q10; cases q11
      obtain ⟨_, _, q13, q14, q15⟩ := rl 6 2 0 (by decide)
      rw [g6] at q13; rw [f2] at q14; cases q13; cases q14
      refine r_loop hF _ _ [] 1 ls4 ws4 H4 locs4 (Nat.le_refl _) ⟨by decide, by decide, hw4, q_H00 hM4 (r := []), hx4.1, hK4, fun n k av h => (by cases h), D2, W2, _, _, _, hl4, hD2, hW3, r_gv hM4 hw4.2.1.1 (by decide) (by decide) (.head _) f0, r_gv hM4 hw4.2.1.1 (by decide) (by decide) (.tail _ (.head _)) g5, r_gv hM4 hw4.2.1.1 (by decide) (by decide) (.tail _ (.tail _ (.head _))) g6, r_gv hM4 hw4.2.1.1 (by decide) (by decide) (.tail _ (.tail _ (.tail _ (.head _)))) g7, r_gv hM4 hw4.2.1.1 (by decide) (by decide) (.tail _ (.tail _ (.tail _ (.tail _ (.head _))))) g8, n5, n6, n7, n8, ?_, ?_, ?_, ?_, ?_⟩ <;> omega
    · refine q_Nof ⟨n0, n1, n2, n3, n4, trivial⟩ (fun a b d hm => ?_)
      simp only [List.mem_cons, List.mem_nil_iff, or_false, Prod.mk.injEq] at hm
      rcases hm with ⟨rfl, rfl, rfl⟩ | ⟨rfl, rfl, rfl⟩ | ⟨rfl, rfl, rfl⟩
      · exact ⟨_, _, rfl, rfl, h9⟩
      · exact ⟨_, _, rfl, rfl, h6⟩
      · exact ⟨_, _, rfl, rfl, h3⟩
    · refine ⟨⟨⟨rfl, .inr (.inr (.inr ⟨rfl, a0, rfl, ?_⟩))⟩, trivial⟩, trivial⟩
      show qr0 mD adr 0 = some a0
      unfold qr0
      rw [if_pos (by decide)]
      exact ha
    · refine q_Mof p1 (fun n k av hm => ?_)
      simp only [List.mem_cons, List.mem_nil_iff, or_false, Prod.mk.injEq] at hm
      rcases hm with ⟨rfl, rfl, rfl⟩ | ⟨rfl, rfl, rfl⟩ | ⟨rfl, rfl, rfl⟩ | ⟨rfl, rfl, rfl⟩ | ⟨rfl, rfl, rfl⟩
      · exact ⟨by decide, _, 20, g4, by simp [qvl, qsl], .inl ⟨by decide, rfl⟩⟩
      · exact ⟨by decide, _, 6, g3, by simp [qvl, qsl], .inl ⟨by decide, rfl⟩⟩
      · exact ⟨by decide, _, 5, g2, by simp [qvl, qsl], .inl ⟨by decide, rfl⟩⟩
      · exact ⟨by decide, _, 4, g1, by simp [qvl, qsl], .inl ⟨by decide, rfl⟩⟩
      · exact ⟨by decide, _, 3, g0, by simp [qvl, qsl], .inl ⟨by decide, rfl⟩⟩

/-! the law's loop: what holds at its head -/
/-- the two tapes are alike -/
def lR (wx wm : va_W) : Prop := ∃ (n : Nat) (f : Nat → Int32), n ≤ 1000 ∧ (∀ k, k < n → kok (f k) = true) ∧ qsl2 wx 1 1 = some (.int (nI n)) ∧ qsl2 wm 0 1 = some (.int (nI n)) ∧ (∀ k, k < n → qsl2 wx 2 k = some (.int (f k))) ∧ (∀ k, k < n → qsl2 wm 1 k = some (.int (f k)))
theorem lR_zero {wx wm : va_W} (hx : qsl2 wx 1 1 = some (.int 0)) (hm : qsl2 wm 0 1 = some (.int 0)) : lR wx wm := ⟨0, fun _ => 0, Nat.zero_le _, fun k hk => absurd hk (Nat.not_lt_zero _), hx, hm, fun k hk => absurd hk (Nat.not_lt_zero _), fun k hk => absurd hk (Nat.not_lt_zero _)⟩
theorem lR_keep {wx wm wx' wm' : va_W} (h : lR wx wm) (hx : qsl2 wx' 1 1 = qsl2 wx 1 1) (hx2 : ∀ k, qsl2 wx' 2 k = qsl2 wx 2 k) (hm : qsl2 wm' 0 1 = qsl2 wm 0 1) (hm2 : ∀ k, qsl2 wm' 1 k = qsl2 wm 1 k) : lR wx' wm' := by
  obtain ⟨n, f, h1, h2, h3, h4, h5, h6⟩ := h
  exact ⟨n, f, h1, h2, hx.trans h3, hm.trans h4, fun k hk => (hx2 k).trans (h5 k hk), fun k hk => (hm2 k).trans (h6 k hk)⟩
theorem qm_no {ms : qMods} {g : Nat} (h : ms.all (fun m => !(m.1 == g)) = true) (k : Nat) : qmod ms g k = false := by
  unfold qmod
  rw [List.any_eq_false]
  intro m hm hc
  have h1 := List.all_eq_true.mp h m hm
  simp only [Bool.and_eq_true, beq_iff_eq] at hc
  rw [hc.1.1] at h1
  simp at h1
theorem kup_ok {f : Nat → Int32} {n : Nat} {b : Int32} (h : ∀ k, k < n → kok (f k) = true) : ∀ k, k < kst n b → kok (kup f n b k) = true := by
  intro k hk
  unfold kst at hk
  unfold kup
  by_cases hc : kok b = true ∧ n < 1000
  · rw [if_pos hc] at hk
    rw [if_pos hc]
    show kok (if k = n then b else f k) = true
    by_cases e : k = n
    · rw [if_pos e]; exact hc.1
    · rw [if_neg e]; exact h k (by omega)
  · rw [if_neg hc] at hk
    rw [if_neg hc]
    exact h k hk
theorem kfa_ok (v : Int64) : ∀ (j n : Nat) (f : Nat → Int32), (∀ k, k < n → kok (f k) = true) → ∀ k, k < kad v j n → kok (kfa v j n f k) = true
  | 0, _, _, h => h
  | j + 1, n, f, h => kfa_ok v j _ _ (kup_ok h)
theorem lR_feed {wx wm : va_W} {n : Nat} {f f1 f2 : Nat → Int32} (va vb vc : Int64) (hn : n ≤ 1000) (hok : ∀ k, k < n → kok (f k) = true) (h1 : ∀ k, k < n → f1 k = f k) (h2 : ∀ k, k < n → f2 k = f k)
    (hx : qsl2 wx 1 1 = some (.int (nI (kad vc 8 (kad vb 8 (kad va 8 n)))))) (hx2 : ∀ k, k < 1000 → qsl2 wx 2 k = some (.int (kfa vc 8 (kad vb 8 (kad va 8 n)) (kfa vb 8 (kad va 8 n) (kfa va 8 n f1)) k)))
    (hm : qsl2 wm 0 1 = some (.int (nI (kad vc 8 (kad vb 8 (kad va 8 n)))))) (hm2 : ∀ k, k < 1000 → qsl2 wm 1 k = some (.int (kfa vc 8 (kad vb 8 (kad va 8 n)) (kfa vb 8 (kad va 8 n) (kfa va 8 n f2)) k))) : lR wx wm := by
  have hle : kad vc 8 (kad vb 8 (kad va 8 n)) ≤ 1000 := kad_le vc 8 _ (kad_le vb 8 _ (kad_le va 8 n hn))
  refine ⟨_, kfa vc 8 (kad vb 8 (kad va 8 n)) (kfa vb 8 (kad va 8 n) (kfa va 8 n f)), hle, kfa_ok vc 8 _ _ (kfa_ok vb 8 _ _ (kfa_ok va 8 _ _ hok)), hx, hm, fun k hk => ?_, fun k hk => ?_⟩
  · rw [hx2 k (by omega), kfa_same vc 8 _ _ _ (kfa_same vb 8 _ _ _ (kfa_same va 8 _ _ _ h1)) k hk]
  · rw [hm2 k (by omega), kfa_same vc 8 _ _ _ (kfa_same vb 8 _ _ _ (kfa_same va 8 _ _ _ h2)) k hk]
def lIv (γ : kΓ) (A : Nat → Prop) (ax am : List Nat) (ou : Nat) (s : State) (H : Heap) (locs : List Loc) : Prop := ∃ (wx wm : va_W) (fo : Nat → Int64), kW γ A (wx ++ (wm ++ [(ou, .inl (γ.2.1 1, 1, .inr (.inl fo)))])) s H locs ∧ qH cD γ ax (fun _ _ => False) wx ∧ qH mD γ am (fun _ _ => False) wm ∧ mX wm ∧ lR wx wm ∧ lT wx wm
theorem b_sw {a b c : va_W} : (a ++ (b ++ c)).Perm (b ++ (a ++ c)) := by
  rw [← List.append_assoc, ← List.append_assoc]
  exact List.Perm.append_right c List.perm_append_comm
theorem b_sw2 {a b c : va_W} : (a ++ (b ++ c)).Perm ((a ++ c) ++ b) := by
  rw [List.append_assoc]
  exact List.Perm.append_left a List.perm_append_comm
theorem b_sw3 {a b c : va_W} : ((a ++ c) ++ b).Perm (a ++ (b ++ c)) := b_sw2.symm
theorem v_bool {D : qWd} {γ : kΓ} {adr : List Nat} {v : Int32} (h : v = 0 ∨ v = 1) : qvT D γ adr (0, 0, 1) (.int v) := ⟨fun _ => ⟨v, rfl, by rcases h with rfl | rfl <;> exact ⟨by decide, by decide⟩⟩, fun h => (by cases h), fun h => (by cases h)⟩
section LSW
variable {γ : kΓ} {p : Program} {l : Launch} {e : Env} {R : Room} {s : State} {m : MethodId} {args : Array Value} {below : List Frame} {meth : Method} {c : Code} {H : Heap} {locs : List Loc} {cells slots : Nat} {Q : State → Prop}
variable {cc : ByteArray} {nL pc : Nat} {own : String} {A : Nat → Prop} {ls : Array Slot} {rest st0 : List Value}
variable {y : MethodName} {bytes : ByteArray} {maxL n index : Nat} {ret : Option FieldType} {hh : List (Nat × Nat × Nat × Nat)} {rm : Room} {wc wr : va_W} {post : Option Value → va_W → Prop} {As : List Value}
theorem l_SW (n : Nat) (hl : Cond.methodLink own index y ∈ kG) (hi : Cond.static y ∈ kG) (hz : Cond.initialized y.cls ∈ kG) (hcode : Cond.codeWith y bytes maxL ret hh ∈ kG)
    (hd : y.cls ≠ "java/lang/invoke/MethodHandle" ∧ y.cls ≠ "java/lang/invoke/VarHandle" ∧ (parseMethodDescriptor y.desc).map (fun d => d.parameters.length) = some n)
    (hC : kC γ p s m args c cc nL own A) (hw : kW γ A (wc ++ wr) s H locs) (hM : kMW γ l y bytes maxL ret hh rm As wc post) (hR : rm.frames + 1 ≤ R.frames ∧ 8 + (maxL + 11) + rm.locals ≤ R.locals) (hf : cells + rm.cells ≤ R.cells ∧ slots + rm.slots ≤ R.slots)
    (hml : ls.size = nL) (hn : As.length = n) (hstack : st0 = As.reverse ++ rest) (hW : (rest.map fun v => v.category).sum ≤ 8) (hdg : decode cc pc = .ok (.invokestatic index, 3))
    (kk : ∀ (r : Option Value) (w1 : va_W) (H1 : Heap) (locs1 : List Loc), post r w1 → kW γ A (w1 ++ wr) s H1 locs1 → W p l e R s m args below meth c H1 locs1 (cells + rm.cells) (slots + rm.slots) Q (F0 m (pc + 3) ls (r.toList ++ rest))) : W p l e R s m args below meth c H locs cells slots Q (F0 m pc ls st0) :=
  k_SW (wr := wr) n hl hi hz hcode hd hC hw hM hR hf hml hn hstack hW (List.range wc.length) (bsh wc.length wr.length) (q_nd _) (b_ap1 wc wr) (b_ap2 wc wr) (b_ndsh _ _) (b_apd _ _) hdg (fun r w1 H1 locs1 hp hw => kk r w1 H1 locs1 hp (hw.perm List.perm_append_comm))
end LSW

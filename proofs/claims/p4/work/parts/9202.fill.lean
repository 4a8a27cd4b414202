theorem dJ7_fill_53178_0 : decode cJ7_fill_53178 0 = .ok (.iconst 0, 1) := by decide +kernel
theorem dJ7_fill_53178_1 : decode cJ7_fill_53178 1 = .ok (.istore_n 2, 1) := by decide +kernel
theorem dJ7_fill_53178_2 : decode cJ7_fill_53178 2 = .ok (.aload_n 0, 1) := by decide +kernel
theorem dJ7_fill_53178_3 : decode cJ7_fill_53178 3 = .ok (.arraylength, 1) := by decide +kernel
theorem dJ7_fill_53178_4 : decode cJ7_fill_53178 4 = .ok (.istore_n 3, 1) := by decide +kernel
theorem dJ7_fill_53178_5 : decode cJ7_fill_53178 5 = .ok (.iload_n 2, 1) := by decide +kernel
theorem dJ7_fill_53178_6 : decode cJ7_fill_53178 6 = .ok (.iload_n 3, 1) := by decide +kernel
theorem dJ7_fill_53178_7 : decode cJ7_fill_53178 7 = .ok (.if_icmp .ge 13, 3) := by decide +kernel
theorem dJ7_fill_53178_10 : decode cJ7_fill_53178 10 = .ok (.aload_n 0, 1) := by decide +kernel
theorem dJ7_fill_53178_11 : decode cJ7_fill_53178 11 = .ok (.iload_n 2, 1) := by decide +kernel
theorem dJ7_fill_53178_12 : decode cJ7_fill_53178 12 = .ok (.iload_n 1, 1) := by decide +kernel
theorem dJ7_fill_53178_13 : decode cJ7_fill_53178 13 = .ok (.iastore, 1) := by decide +kernel
theorem dJ7_fill_53178_14 : decode cJ7_fill_53178 14 = .ok (.iinc 2 1, 3) := by decide +kernel
theorem dJ7_fill_53178_17 : decode cJ7_fill_53178 17 = .ok (.goto (-12), 3) := by decide +kernel
theorem dJ7_fill_53178_20 : decode cJ7_fill_53178 20 = .ok (.return_, 1) := by decide +kernel
theorem dJ7_fill_d0a16_0 : decode cJ7_fill_d0a16 0 = .ok (.iconst 0, 1) := by decide +kernel
theorem dJ7_fill_d0a16_1 : decode cJ7_fill_d0a16 1 = .ok (.istore_n 3, 1) := by decide +kernel
theorem dJ7_fill_d0a16_2 : decode cJ7_fill_d0a16 2 = .ok (.aload_n 0, 1) := by decide +kernel
theorem dJ7_fill_d0a16_3 : decode cJ7_fill_d0a16 3 = .ok (.arraylength, 1) := by decide +kernel
theorem dJ7_fill_d0a16_4 : decode cJ7_fill_d0a16 4 = .ok (.istore 4, 2) := by decide +kernel
theorem dJ7_fill_d0a16_6 : decode cJ7_fill_d0a16 6 = .ok (.iload_n 3, 1) := by decide +kernel
theorem dJ7_fill_d0a16_7 : decode cJ7_fill_d0a16 7 = .ok (.iload 4, 2) := by decide +kernel
theorem dJ7_fill_d0a16_9 : decode cJ7_fill_d0a16 9 = .ok (.if_icmp .ge 13, 3) := by decide +kernel
theorem dJ7_fill_d0a16_12 : decode cJ7_fill_d0a16 12 = .ok (.aload_n 0, 1) := by decide +kernel
theorem dJ7_fill_d0a16_13 : decode cJ7_fill_d0a16 13 = .ok (.iload_n 3, 1) := by decide +kernel
theorem dJ7_fill_d0a16_14 : decode cJ7_fill_d0a16 14 = .ok (.lload_n 1, 1) := by decide +kernel
theorem dJ7_fill_d0a16_15 : decode cJ7_fill_d0a16 15 = .ok (.lastore, 1) := by decide +kernel
theorem dJ7_fill_d0a16_16 : decode cJ7_fill_d0a16 16 = .ok (.iinc 3 1, 3) := by decide +kernel
theorem dJ7_fill_d0a16_19 : decode cJ7_fill_d0a16 19 = .ok (.goto (-13), 3) := by decide +kernel
theorem dJ7_fill_d0a16_22 : decode cJ7_fill_d0a16 22 = .ok (.return_, 1) := by decide +kernel
set_option maxHeartbeats 4000000 in
set_option maxRecDepth 100000 in
theorem lp_fill {γ : kΓ} {l : Launch} {p9 : Program} {e : Env} {s : State} {m : MethodId} {below : List Frame} {meth : Method} {c : Code} {A : Nat → Prop} (a : Nat) (n : Nat) (v : Int32) (hn : n < 2 ^ 31) (hC : kC γ p9 s m [.ref a, .int v].toArray c cJ7_fill_53178 4 RJ7 A) (hr : meth.sig.returnType = none) (hlocks : meth.locks = false) : ∀ (k : Nat) (i : Nat) (f : Nat → Int32), n - i < k → (i ≤ n) → (∀ j, j < i → f j = v) → ∀ (H : Heap) (locs : List Loc), kW γ A [(a, .inl (γ.2.1 0, n, .inl f))] s H locs → ∀ ls : Array Slot, lv_has ls 4 [(2, .int (nI i)), (3, .int (nI n)), (0, .ref a), (1, .int v)] → W p9 l e ({ frames := 0, cells := 0, slots := 0, locals := 0 } : Room) s m [.ref a, .int v].toArray below meth c H locs 0 0 (MQ below (kQ γ A (fun r w1 => ∃ (f9 : Nat → Int32), r = none ∧ w1 = [(a, .inl (γ.2.1 0, n, .inl f9))] ∧ (∀ j, j < n → f9 j = v))) [.ref a, .int v].toArray s 0 0 A) (F0 m 5 ls []) := by
  have hx := hC.1
  have hb := hC.2.1
  intro k
  induction k with
  | zero => intro i f hk; exact absurd hk (Nat.not_lt_zero _)
  | succ k ih =>
    intro i f hk hi hf H locs hw ls hl
    refine lv_iload_n hx hb dJ7_fill_53178_5 rfl (lv_at hl 0 rfl) ?_
    refine lv_iload_n hx hb dJ7_fill_53178_6 rfl (lv_at hl 1 rfl) ?_
    refine lv_icmp_ge (tgt := 20) hx hb dJ7_fill_53178_7 (by decide) (fun c1 => ?_) (fun c1 => ?_)
    · have hi9 : i = n := by have h9 := (nI_leI hn (Nat.lt_of_le_of_lt hi hn)).mp c1; omega
      exact k_vret hC hr hlocks hw [0] rfl rfl ⟨f, rfl, rfl, (fun j hj => hf j (by omega))⟩ (by decide) (by decide) dJ7_fill_53178_20
    · have hi9 : i < n := by rcases Nat.lt_or_ge i n with h | h; exact h; exact absurd (nI_le h (Nat.lt_of_le_of_lt hi hn)) c1
      refine lv_aload_n hx hb dJ7_fill_53178_10 rfl (lv_at hl 2 rfl) ?_
      refine lv_iload_n hx hb dJ7_fill_53178_11 rfl (lv_at hl 0 rfl) ?_
      refine lv_iload_n hx hb dJ7_fill_53178_12 rfl (lv_at hl 3 rfl) ?_
      refine k_iast hC hw 0 rfl (vp_in_nI hi9 hn) dJ7_fill_53178_13 (fun H locs hw => ?_)
      obtain ⟨f_1, ef_1⟩ : ∃ g, g = upd f ((nI i) : Int32).toNatClampNeg v := ⟨_, rfl⟩
      have hw : kW γ A [(a, .inl (γ.2.1 0, n, .inl f_1))] s H locs := by rw [ef_1]; exact hw
      refine lv_iinc (v := (nI (i + 1))) (lv' := [(2, .int (nI (i + 1))), (3, .int (nI n)), (0, .ref a), (1, .int v)]) hx hb dJ7_fill_53178_14 hl (k := 0) rfl (nI_1 i) (by decide) rfl (fun ls hl => ?_)
      refine lv_goto (tgt := 5) hx hb dJ7_fill_53178_17 (by decide) ?_
      exact ih (i + 1) f_1 (by omega) (by omega) (by rw [ef_1, nI_clamp (Nat.lt_of_le_of_lt hi hn)]; exact k_updfill hf) _ _ (kW.sub hw [0] rfl rfl) _ (lv_sub hl [0, 1, 2, 3] rfl)

set_option maxHeartbeats 4000000 in
set_option maxRecDepth 100000 in
theorem c_fill (γ : kΓ) (l : Launch) (a : Nat) (n : Nat) (f : Nat → Int32) (v : Int32) (hn : n < 2 ^ 31) : kM γ l yJ7_fill_53178 cJ7_fill_53178 4 none ({ frames := 0, cells := 0, slots := 0, locals := 0 } : Room) [.ref a, .int v] [(a, .inl (γ.2.1 0, n, .inl f))] (fun r w1 => ∃ (f9 : Nat → Int32), r = none ∧ w1 = [(a, .inl (γ.2.1 0, n, .inl f9))] ∧ (∀ j, j < n → f9 j = v)) := by
  refine k_ofW (by decide) (Nat.le_of_ble_eq_true rfl) ?_
  intro p9 e s m below meth c A ls hC hr hlocks hname hw hl
  have hx := hC.1
  have hb := hC.2.1
  have hl : lv_has ls 4 [(0, .ref a), (1, .int v)] := hl
  refine lv_iconst (v := 0) hx hb dJ7_fill_53178_0 (by decide) ?_
  refine lv_istore_n (lv' := [(2, .int 0), (0, .ref a), (1, .int v)]) hx hb dJ7_fill_53178_1 rfl hl (by decide) rfl (fun ls hl => ?_)
  refine lv_aload_n hx hb dJ7_fill_53178_2 rfl (lv_at hl 1 rfl) ?_
  refine k_alen hC hw 0 0 rfl rfl (v := (nI n)) rfl dJ7_fill_53178_3 ?_
  refine lv_istore_n (lv' := [(3, .int (nI n)), (2, .int 0), (0, .ref a), (1, .int v)]) hx hb dJ7_fill_53178_4 rfl hl (by decide) rfl (fun ls hl => ?_)
  exact lp_fill a n v hn hC hr hlocks (n + 1) 0 f (by omega) (Nat.zero_le n) (fun j hj => absurd hj (Nat.not_lt_zero j)) _ _ hw _ (lv_sub hl [1, 0, 2, 3] rfl)

set_option maxHeartbeats 4000000 in
set_option maxRecDepth 100000 in
theorem lp_filll {γ : kΓ} {l : Launch} {p9 : Program} {e : Env} {s : State} {m : MethodId} {below : List Frame} {meth : Method} {c : Code} {A : Nat → Prop} (a : Nat) (n : Nat) (v : Int64) (hn : n < 2 ^ 31) (hC : kC γ p9 s m [.ref a, .long v].toArray c cJ7_fill_d0a16 5 RJ7 A) (hr : meth.sig.returnType = none) (hlocks : meth.locks = false) : ∀ (k : Nat) (i : Nat) (f : Nat → Int64), n - i < k → (i ≤ n) → (∀ j, j < i → f j = v) → ∀ (H : Heap) (locs : List Loc), kW γ A [(a, .inl (γ.2.1 1, n, .inr (.inl f)))] s H locs → ∀ ls : Array Slot, lv_has ls 5 [(3, .int (nI i)), (4, .int (nI n)), (0, .ref a), (1, .long v)] → W p9 l e ({ frames := 0, cells := 0, slots := 0, locals := 0 } : Room) s m [.ref a, .long v].toArray below meth c H locs 0 0 (MQ below (kQ γ A (fun r w1 => ∃ (f9 : Nat → Int64), r = none ∧ w1 = [(a, .inl (γ.2.1 1, n, .inr (.inl f9)))] ∧ (∀ j, j < n → f9 j = v))) [.ref a, .long v].toArray s 0 0 A) (F0 m 6 ls []) := by
  have hx := hC.1
  have hb := hC.2.1
  intro k
  induction k with
  | zero => intro i f hk; exact absurd hk (Nat.not_lt_zero _)
  | succ k ih =>
    intro i f hk hi hf H locs hw ls hl
    refine lv_iload_n hx hb dJ7_fill_d0a16_6 rfl (lv_at hl 0 rfl) ?_
    refine lv_iload hx hb dJ7_fill_d0a16_7 (lv_at hl 1 rfl) ?_
    refine lv_icmp_ge (tgt := 22) hx hb dJ7_fill_d0a16_9 (by decide) (fun c1 => ?_) (fun c1 => ?_)
    · have hi9 : i = n := by have h9 := (nI_leI hn (Nat.lt_of_le_of_lt hi hn)).mp c1; omega
      exact k_vret hC hr hlocks hw [0] rfl rfl ⟨f, rfl, rfl, (fun j hj => hf j (by omega))⟩ (by decide) (by decide) dJ7_fill_d0a16_22
    · have hi9 : i < n := by rcases Nat.lt_or_ge i n with h | h; exact h; exact absurd (nI_le h (Nat.lt_of_le_of_lt hi hn)) c1
      refine lv_aload_n hx hb dJ7_fill_d0a16_12 rfl (lv_at hl 2 rfl) ?_
      refine lv_iload_n hx hb dJ7_fill_d0a16_13 rfl (lv_at hl 0 rfl) ?_
      refine lv_lload_n hx hb dJ7_fill_d0a16_14 rfl (lv_at hl 3 rfl) ?_
      refine k_last hC hw 0 rfl (vp_in_nI hi9 hn) dJ7_fill_d0a16_15 (fun H locs hw => ?_)
      obtain ⟨f_2, ef_2⟩ : ∃ g, g = vp_updL f ((nI i) : Int32).toNatClampNeg v := ⟨_, rfl⟩
      have hw : kW γ A [(a, .inl (γ.2.1 1, n, .inr (.inl f_2)))] s H locs := by rw [ef_2]; exact hw
      refine lv_iinc (v := (nI (i + 1))) (lv' := [(3, .int (nI (i + 1))), (4, .int (nI n)), (0, .ref a), (1, .long v)]) hx hb dJ7_fill_d0a16_16 hl (k := 0) rfl (nI_1 i) (by decide) rfl (fun ls hl => ?_)
      refine lv_goto (tgt := 6) hx hb dJ7_fill_d0a16_19 (by decide) ?_
      exact ih (i + 1) f_2 (by omega) (by omega) (by rw [ef_2, nI_clamp (Nat.lt_of_le_of_lt hi hn)]; exact k_updfillL hf) _ _ (kW.sub hw [0] rfl rfl) _ (lv_sub hl [0, 1, 2, 3] rfl)

set_option maxHeartbeats 4000000 in
set_option maxRecDepth 100000 in
theorem c_filll (γ : kΓ) (l : Launch) (a : Nat) (n : Nat) (f : Nat → Int64) (v : Int64) (hn : n < 2 ^ 31) : kM γ l yJ7_fill_d0a16 cJ7_fill_d0a16 5 none ({ frames := 0, cells := 0, slots := 0, locals := 0 } : Room) [.ref a, .long v] [(a, .inl (γ.2.1 1, n, .inr (.inl f)))] (fun r w1 => ∃ (f9 : Nat → Int64), r = none ∧ w1 = [(a, .inl (γ.2.1 1, n, .inr (.inl f9)))] ∧ (∀ j, j < n → f9 j = v)) := by
  refine k_ofW (by decide) (Nat.le_of_ble_eq_true rfl) ?_
  intro p9 e s m below meth c A ls hC hr hlocks hname hw hl
  have hx := hC.1
  have hb := hC.2.1
  have hl : lv_has ls 5 [(0, .ref a), (1, .long v)] := hl
  refine lv_iconst (v := 0) hx hb dJ7_fill_d0a16_0 (by decide) ?_
  refine lv_istore_n (lv' := [(3, .int 0), (0, .ref a), (1, .long v)]) hx hb dJ7_fill_d0a16_1 rfl hl (by decide) rfl (fun ls hl => ?_)
  refine lv_aload_n hx hb dJ7_fill_d0a16_2 rfl (lv_at hl 1 rfl) ?_
  refine k_alen hC hw 0 1 rfl rfl (v := (nI n)) rfl dJ7_fill_d0a16_3 ?_
  refine lv_istore (lv' := [(4, .int (nI n)), (3, .int 0), (0, .ref a), (1, .long v)]) hx hb dJ7_fill_d0a16_4 hl (by decide) rfl (fun ls hl => ?_)
  exact lp_filll a n v hn hC hr hlocks (n + 1) 0 f (by omega) (Nat.zero_le n) (fun j hj => absurd hj (Nat.not_lt_zero j)) _ _ hw _ (lv_sub hl [1, 0, 2, 3] rfl)


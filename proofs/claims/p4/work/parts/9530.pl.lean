abbrev aAS := (Nat → Int64) × (Nat → Int32) × (Nat → Int32) × (Nat → Int32) × (Nat → Int64) × (Nat → Int32) × (Nat → Int32) × Nat × Nat × Int32 × Int32 × Int32 × Int32 × Nat × Int32 × Int32 × Int32 × Int32
def aWd (γ : kΓ) (ab a0 a1 a2 a3 a4 a5 a6 a7 : Nat) (a : aAS) : va_W := [(ab, .inr (0, [.ref a0, .ref a1, .ref a2, .ref a3, .ref a4, .ref a5, .ref a6, .ref a7, .int (nI (a.2.2.2.2.2.2.2.1)), .int (nI (a.2.2.2.2.2.2.2.2.1)), .int (a.2.2.2.2.2.2.2.2.2.1), .int (a.2.2.2.2.2.2.2.2.2.2.1), .int (a.2.2.2.2.2.2.2.2.2.2.2.1), .int (a.2.2.2.2.2.2.2.2.2.2.2.2.1), .int (nI (a.2.2.2.2.2.2.2.2.2.2.2.2.2.1)), .int (a.2.2.2.2.2.2.2.2.2.2.2.2.2.2.1), .int (a.2.2.2.2.2.2.2.2.2.2.2.2.2.2.2.1), .int (a.2.2.2.2.2.2.2.2.2.2.2.2.2.2.2.2.1), .int (a.2.2.2.2.2.2.2.2.2.2.2.2.2.2.2.2.2)])), (a0, .inl (γ.2.1 1, 8, .inr (.inl (a.1)))), (a1, .inl (γ.2.1 0, 8, .inl (a.2.1))), (a2, .inl (γ.2.1 0, 8, .inl (a.2.2.1))), (a3, .inl (γ.2.1 0, 8, .inl (a.2.2.2.1))), (a4, .inl (γ.2.1 1, 5, .inr (.inl (a.2.2.2.2.1)))), (a5, .inl (γ.2.1 0, 5, .inl (a.2.2.2.2.2.1))), (a6, .inl (γ.2.1 0, 1000, .inl (a.2.2.2.2.2.2.1)))]
def aOK (a : aAS) : Prop := (a.2.2.2.2.2.2.2.1) ≤ 8 ∧ (a.2.2.2.2.2.2.2.2.1) ≤ 5 ∧ (a.2.2.2.2.2.2.2.2.2.2.2.2.2.1) ≤ 1000
theorem lt_c {T k : Nat} {c : Int32} (e : nI k = c) (hT : T < 2 ^ 31) (h : ¬ c ≤ nI T) : T < k := by
  rcases Nat.lt_or_ge T k with h9 | h9
  · exact h9
  · exact absurd (e ▸ nI_le h9 hT) h
def pl (nm : Nat → Int64) (x : Int64) : Nat → Nat → Int32
  | 0, _ => -1
  | d + 1, i => if nm i = x then nI i else pl nm x d (i + 1)
theorem pl_y {nm : Nat → Int64} {x : Int64} {m i : Nat} (h : i < m) (e : nm i = x) : pl nm x (m - i) i = nI i := by
  rw [show m - i = (m - (i + 1)) + 1 by omega]
  exact if_pos e
theorem pl_n {nm : Nat → Int64} {x : Int64} {m i : Nat} (h : i < m) (e : ¬ nm i = x) : pl nm x (m - i) i = pl nm x (m - (i + 1)) (i + 1) := by
  rw [show m - i = (m - (i + 1)) + 1 by omega]
  exact if_neg e
theorem pl_e {nm : Nat → Int64} {x : Int64} {m i : Nat} (h : ¬ i < m) : pl nm x (m - i) i = -1 := by
  rw [show m - i = 0 by omega]
  rfl
theorem dX0_placeOf_0 : decode cX0_placeOf 0 = .ok (.iconst 0, 1) := by decide +kernel
theorem dX0_placeOf_1 : decode cX0_placeOf 1 = .ok (.istore 4, 2) := by decide +kernel
theorem dX0_placeOf_3 : decode cX0_placeOf 3 = .ok (.iload 4, 2) := by decide +kernel
theorem dX0_placeOf_5 : decode cX0_placeOf 5 = .ok (.iload_n 3, 1) := by decide +kernel
theorem dX0_placeOf_6 : decode cX0_placeOf 6 = .ok (.if_icmp .ge 21, 3) := by decide +kernel
theorem dX0_placeOf_9 : decode cX0_placeOf 9 = .ok (.aload_n 2, 1) := by decide +kernel
theorem dX0_placeOf_10 : decode cX0_placeOf 10 = .ok (.iload 4, 2) := by decide +kernel
theorem dX0_placeOf_12 : decode cX0_placeOf 12 = .ok (.laload, 1) := by decide +kernel
theorem dX0_placeOf_13 : decode cX0_placeOf 13 = .ok (.lload_n 0, 1) := by decide +kernel
theorem dX0_placeOf_14 : decode cX0_placeOf 14 = .ok (.lcmp, 1) := by decide +kernel
theorem dX0_placeOf_15 : decode cX0_placeOf 15 = .ok (.ifCond .ne 6, 3) := by decide +kernel
theorem dX0_placeOf_18 : decode cX0_placeOf 18 = .ok (.iload 4, 2) := by decide +kernel
theorem dX0_placeOf_20 : decode cX0_placeOf 20 = .ok (.ireturn, 1) := by decide +kernel
theorem dX0_placeOf_21 : decode cX0_placeOf 21 = .ok (.iinc 4 1, 3) := by decide +kernel
theorem dX0_placeOf_24 : decode cX0_placeOf 24 = .ok (.goto (-21), 3) := by decide +kernel
theorem dX0_placeOf_27 : decode cX0_placeOf 27 = .ok (.iconst (-1), 1) := by decide +kernel
theorem dX0_placeOf_28 : decode cX0_placeOf 28 = .ok (.ireturn, 1) := by decide +kernel
set_option maxHeartbeats 4000000 in
set_option maxRecDepth 100000 in
theorem lp_pl {γ : kΓ} {l : Launch} {p : Program} {e : Env} {s : State} {m9 : MethodId} {below : List Frame} {meth : Method} {c : Code} {A : Nat → Prop} (x : Int64) (an k mm : Nat) (nm : Nat → Int64) (R9 : Int32) (hm : mm ≤ k) (hk : k ≤ 1000) (hC : kC γ p s m9 [.long x, .ref an, .int (nI mm)].toArray c cX0_placeOf 5 RX0 A) (hr : meth.sig.returnType = (some .int)) (hlocks : meth.locks = false) : ∀ (d i : Nat), mm - i < d → i ≤ mm → pl nm x (mm - i) i = R9 → ∀ (H : Heap) (locs : List Loc), kW γ A [(an, .inl (γ.2.1 1, k, .inr (.inl nm)))] s H locs → ∀ ls : Array Slot, lv_has ls 5 [(4, .int (nI i)), (0, .long x), (2, .ref an), (3, .int (nI mm))] → W p l e ({ frames := 0, cells := 0, slots := 0, locals := 0 } : Room) s m9 [.long x, .ref an, .int (nI mm)].toArray below meth c H locs 0 0 (MQ below (kQ γ A (fun r w1 => r = some (.int R9) ∧ w1 = [(an, .inl (γ.2.1 1, k, .inr (.inl nm)))])) [.long x, .ref an, .int (nI mm)].toArray s 0 0 A) (F0 m9 3 ls []) := by
  have hx := hC.1
  have hb := hC.2.1
  intro d
  induction d with
  | zero => intro i hd; exact absurd hd (Nat.not_lt_zero _)
  | succ d ih =>
    intro i hd him hR H locs hw ls hl
    refine lv_iload hx hb dX0_placeOf_3 (lv_at hl 0 rfl) ?_
    refine lv_iload_n hx hb dX0_placeOf_5 rfl (lv_at hl 3 rfl) ?_
    refine lv_icmp_ge (tgt := 27) hx hb dX0_placeOf_6 (by decide) (fun c6 => ?_) (fun c6 => ?_)
    · have h6 : ¬ i < mm := fun h9 => absurd c6 (nI_ge h9 (by omega))
      refine lv_iconst (v := (-1)) hx hb dX0_placeOf_27 (by decide) ?_
      exact k_iret hC hr hlocks hw [0] rfl rfl ⟨by rw [← hR, pl_e h6], rfl⟩ (by decide) (by decide) dX0_placeOf_28
    · have h6 : i < mm := by rcases Nat.lt_or_ge i mm with h9 | h9; exact h9; exact absurd (nI_le h9 (by omega)) c6
      refine lv_aload_n hx hb dX0_placeOf_9 rfl (lv_at hl 2 rfl) ?_
      refine lv_iload hx hb dX0_placeOf_10 (lv_at hl 0 rfl) ?_
      refine k_lald hC hw 0 rfl (vp_in_nI (by omega) (by omega)) dX0_placeOf_12 ?_
      refine lv_topl (fun y ey => ?_)
      obtain rfl : y = nm i := (show y = nm (nI i : Int32).toNatClampNeg from ey).trans (by rw [nI_clamp (by omega)])
      refine lv_lload_n hx hb dX0_placeOf_13 rfl (lv_at hl 1 rfl) ?_
      refine W.lcmp hx hb dX0_placeOf_14 ?_
      refine lv_if_ne (tgt := 21) hx hb dX0_placeOf_15 (by decide) (fun hne => ?_) (fun heq => ?_)
      · have hx9 : ¬ nm i = x := fun e9 => hne (by rw [e9]; exact k_cmp_self9 x)
        refine lv_iinc (v := (nI (i + 1))) (lv' := [(4, .int (nI (i + 1))), (0, .long x), (2, .ref an), (3, .int (nI mm))]) hx hb dX0_placeOf_21 hl (k := 0) rfl (nI_1 i) (by decide) rfl (fun ls hl => ?_)
        refine lv_goto (tgt := 3) hx hb dX0_placeOf_24 (by decide) ?_
        exact ih (i + 1) (by omega) (by omega) ((pl_n h6 hx9).symm.trans hR) _ _ hw _ hl
      · have hx9 : nm i = x := k_cmp0 heq
        refine lv_iload hx hb dX0_placeOf_18 (lv_at hl 0 rfl) ?_
        exact k_iret hC hr hlocks hw [0] rfl rfl ⟨by rw [← hR, pl_y h6 hx9], rfl⟩ (by decide) (by decide) dX0_placeOf_20
set_option maxHeartbeats 4000000 in
set_option maxRecDepth 100000 in
theorem c_placeOf (γ : kΓ) (l : Launch) (x : Int64) (an : Nat) (k : Nat) (mm : Nat) (nm : Nat → Int64) (hm : mm ≤ k) (hk : k ≤ 1000) : kM γ l yX0_placeOf cX0_placeOf 5 ((some .int)) ({ frames := 0, cells := 0, slots := 0, locals := 0 } : Room) [.long x, .ref an, .int (nI mm)] [(an, .inl (γ.2.1 1, k, .inr (.inl nm)))] (fun r w1 => r = some (.int (pl nm x mm 0)) ∧ w1 = [(an, .inl (γ.2.1 1, k, .inr (.inl nm)))]) := by
  refine k_ofW (by decide) (Nat.le_of_ble_eq_true rfl) ?_
  intro p9 e s m below meth c A ls hC hr hlocks hname hw hl
  have hx := hC.1
  have hb := hC.2.1
  have hl : lv_has ls 5 [(0, .long x), (2, .ref an), (3, .int (nI mm))] := hl
  refine lv_iconst (v := 0) hx hb dX0_placeOf_0 (by decide) ?_
  refine lv_istore (lv' := [(4, .int 0), (0, .long x), (2, .ref an), (3, .int (nI mm))]) hx hb dX0_placeOf_1 hl (by decide) rfl (fun ls hl => ?_)
  exact lp_pl x an k mm nm _ hm hk hC hr hlocks (mm + 1) 0 (by omega) (Nat.zero_le _) rfl _ _ hw _ hl


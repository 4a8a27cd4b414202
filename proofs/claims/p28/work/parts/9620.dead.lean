/-! dead, ring: what they are -/
def deF (af : Nat → Int32) : Nat → Int32
  | 0 => 0
  | k + 1 => if af k = 0 then deF af k ||| (1 <<< (nI k &&& 31)) else deF af k
theorem dF_p {af : Nat → Int32} {k : Nat} (h : af k = 0) : deF af k ||| (1 <<< (nI k &&& 31)) = deF af (k + 1) := (if_pos h).symm
theorem dF_n {af : Nat → Int32} {k : Nat} (h : ¬ af k = 0) : deF af k = deF af (k + 1) := (if_neg h).symm
theorem dF_same {f g : Nat → Int32} : ∀ (T : Nat), (∀ i, i < T → f i = g i) → deF f T = deF g T
  | 0, _ => rfl
  | k + 1, h => by
    show (if f k = 0 then deF f k ||| (1 <<< (nI k &&& 31)) else deF f k) = (if g k = 0 then deF g k ||| (1 <<< (nI k &&& 31)) else deF g k)
    rw [dF_same k (fun i hi => h i (by omega)), h k (by omega)]
def aF (af : Nat → Int32) (set : Int32) : Nat → Int32
  | 0 => 0
  | k + 1 => if F_isIn set (nI k) = 0 then aF af set k else aF af set k ||| af k
theorem aF_p {af : Nat → Int32} {set : Int32} {k : Nat} (h : F_isIn set (nI k) = 0) : aF af set k = aF af set (k + 1) := (if_pos h).symm
theorem aF_n {af : Nat → Int32} {set : Int32} {k : Nat} (h : ¬ F_isIn set (nI k) = 0) : aF af set k ||| af k = aF af set (k + 1) := (if_neg h).symm
theorem aF_same {f g : Nat → Int32} {set : Int32} : ∀ (T : Nat), (∀ i, i < T → f i = g i) → aF f set T = aF g set T
  | 0, _ => rfl
  | k + 1, h => by
    show (if F_isIn set (nI k) = 0 then aF f set k else aF f set k ||| f k) = (if F_isIn set (nI k) = 0 then aF g set k else aF g set k ||| g k)
    rw [aF_same k (fun i hi => h i (by omega)), h k (by omega)]
theorem isIn_0 {x y : Int32} (h : ¬ ((x >>> (y &&& 31)) &&& 1) = 1) : F_isIn x y = 0 := by
  unfold F_isIn
  rw [if_pos ((and1 _).elim id (fun h9 => absurd h9 h))]
theorem isIn_1 {x y : Int32} (h : ((x >>> (y &&& 31)) &&& 1) = 1) : ¬ F_isIn x y = 0 := by
  unfold F_isIn
  rw [if_neg (by rw [h]; decide)]
  decide
def rG (af : Nat → Int32) (T : Nat) (th : Int32) : Nat → Nat → Int32 → Int32
  | 0, _, _ => -1
  | k + 1, i, set => if F_isIn set th = 0 then rG af T th k (i + 1) (aF af set T) else nI i
theorem rG_p {af : Nat → Int32} {T : Nat} {th : Int32} {k i : Nat} {set : Int32} (h : F_isIn set th = 0) : rG af T th (k + 1) i set = rG af T th k (i + 1) (aF af set T) := if_pos h
theorem rG_n {af : Nat → Int32} {T : Nat} {th : Int32} {k i : Nat} {set : Int32} (h : ¬ F_isIn set th = 0) : rG af T th (k + 1) i set = nI i := if_neg h
theorem rG_same {f g : Nat → Int32} {T : Nat} {th : Int32} (h : ∀ i, i < T → f i = g i) : ∀ (k i : Nat) (set : Int32), rG f T th k i set = rG g T th k i set
  | 0, _, _ => rfl
  | k + 1, i, set => by
    show (if F_isIn set th = 0 then rG f T th k (i + 1) (aF f set T) else nI i) = (if F_isIn set th = 0 then rG g T th k (i + 1) (aF g set T) else nI i)
    rw [aF_same T h, rG_same h k (i + 1)]
/-- ring of a thought -/
def rgV (af : Nat → Int32) (T : Nat) (th : Int32) : Int32 := if 0 ≤ th.toInt ∧ th.toInt < T then rG af T th 8 1 (af th.toNatClampNeg) else -1
theorem rV_same {f g : Nat → Int32} {T : Nat} {th : Int32} (h : ∀ i, i < T → f i = g i) : rgV f T th = rgV g T th := by
  unfold rgV
  by_cases hc : 0 ≤ th.toInt ∧ th.toInt < T
  · rw [if_pos hc, if_pos hc, rG_same h, h th.toNatClampNeg (by show th.toInt.toNat < T; omega)]
  · rw [if_neg hc, if_neg hc]
theorem dX11_dead_0 : decode cX11_dead 0 = .ok (.iconst 0, 1) := by decide +kernel
theorem dX11_dead_1 : decode cX11_dead 1 = .ok (.istore_n 1, 1) := by decide +kernel
theorem dX11_dead_2 : decode cX11_dead 2 = .ok (.iconst 0, 1) := by decide +kernel
theorem dX11_dead_3 : decode cX11_dead 3 = .ok (.istore_n 2, 1) := by decide +kernel
theorem dX11_dead_4 : decode cX11_dead 4 = .ok (.iload_n 2, 1) := by decide +kernel
theorem dX11_dead_5 : decode cX11_dead 5 = .ok (.aload_n 0, 1) := by decide +kernel
theorem dX11_dead_6 : decode cX11_dead 6 = .ok (.getfield 65, 3) := by decide +kernel
theorem dX11_dead_9 : decode cX11_dead 9 = .ok (.getfield 108, 3) := by decide +kernel
theorem dX11_dead_12 : decode cX11_dead 12 = .ok (.if_icmp .ge 27, 3) := by decide +kernel
theorem dX11_dead_15 : decode cX11_dead 15 = .ok (.aload_n 0, 1) := by decide +kernel
theorem dX11_dead_16 : decode cX11_dead 16 = .ok (.getfield 65, 3) := by decide +kernel
theorem dX11_dead_19 : decode cX11_dead 19 = .ok (.getfield 128, 3) := by decide +kernel
theorem dX11_dead_22 : decode cX11_dead 22 = .ok (.iload_n 2, 1) := by decide +kernel
theorem dX11_dead_23 : decode cX11_dead 23 = .ok (.iaload, 1) := by decide +kernel
theorem dX11_dead_24 : decode cX11_dead 24 = .ok (.ifCond .ne 9, 3) := by decide +kernel
theorem dX11_dead_27 : decode cX11_dead 27 = .ok (.iload_n 1, 1) := by decide +kernel
theorem dX11_dead_28 : decode cX11_dead 28 = .ok (.iconst 1, 1) := by decide +kernel
theorem dX11_dead_29 : decode cX11_dead 29 = .ok (.iload_n 2, 1) := by decide +kernel
theorem dX11_dead_30 : decode cX11_dead 30 = .ok (.ishl, 1) := by decide +kernel
theorem dX11_dead_31 : decode cX11_dead 31 = .ok (.ior, 1) := by decide +kernel
theorem dX11_dead_32 : decode cX11_dead 32 = .ok (.istore_n 1, 1) := by decide +kernel
theorem dX11_dead_33 : decode cX11_dead 33 = .ok (.iinc 2 1, 3) := by decide +kernel
theorem dX11_dead_36 : decode cX11_dead 36 = .ok (.goto (-32), 3) := by decide +kernel
theorem dX11_dead_39 : decode cX11_dead 39 = .ok (.iload_n 1, 1) := by decide +kernel
theorem dX11_dead_40 : decode cX11_dead 40 = .ok (.ireturn, 1) := by decide +kernel
theorem dX12_dead_0 : decode cX12_dead 0 = .ok (.aload_n 0, 1) := by decide +kernel
theorem dX12_dead_1 : decode cX12_dead 1 = .ok (.iconst 0, 1) := by decide +kernel
theorem dX12_dead_2 : decode cX12_dead 2 = .ok (.putfield 143, 3) := by decide +kernel
theorem dX12_dead_5 : decode cX12_dead 5 = .ok (.iconst 0, 1) := by decide +kernel
theorem dX12_dead_6 : decode cX12_dead 6 = .ok (.istore_n 1, 1) := by decide +kernel
theorem dX12_dead_7 : decode cX12_dead 7 = .ok (.iconst 0, 1) := by decide +kernel
theorem dX12_dead_8 : decode cX12_dead 8 = .ok (.istore_n 2, 1) := by decide +kernel
theorem dX12_dead_9 : decode cX12_dead 9 = .ok (.iload_n 2, 1) := by decide +kernel
theorem dX12_dead_10 : decode cX12_dead 10 = .ok (.aload_n 0, 1) := by decide +kernel
theorem dX12_dead_11 : decode cX12_dead 11 = .ok (.getfield 13, 3) := by decide +kernel
theorem dX12_dead_14 : decode cX12_dead 14 = .ok (.iconst 0, 1) := by decide +kernel
theorem dX12_dead_15 : decode cX12_dead 15 = .ok (.iaload, 1) := by decide +kernel
theorem dX12_dead_16 : decode cX12_dead 16 = .ok (.if_icmp .ge 28, 3) := by decide +kernel
theorem dX12_dead_19 : decode cX12_dead 19 = .ok (.iload_n 1, 1) := by decide +kernel
theorem dX12_dead_20 : decode cX12_dead 20 = .ok (.aload_n 0, 1) := by decide +kernel
theorem dX12_dead_21 : decode cX12_dead 21 = .ok (.getfield 29, 3) := by decide +kernel
theorem dX12_dead_24 : decode cX12_dead 24 = .ok (.iload_n 2, 1) := by decide +kernel
theorem dX12_dead_25 : decode cX12_dead 25 = .ok (.iaload, 1) := by decide +kernel
theorem dX12_dead_26 : decode cX12_dead 26 = .ok (.ifCond .ne 9, 3) := by decide +kernel
theorem dX12_dead_29 : decode cX12_dead 29 = .ok (.iconst 1, 1) := by decide +kernel
theorem dX12_dead_30 : decode cX12_dead 30 = .ok (.iload_n 2, 1) := by decide +kernel
theorem dX12_dead_31 : decode cX12_dead 31 = .ok (.ishl, 1) := by decide +kernel
theorem dX12_dead_32 : decode cX12_dead 32 = .ok (.goto 4, 3) := by decide +kernel
theorem dX12_dead_35 : decode cX12_dead 35 = .ok (.iconst 0, 1) := by decide +kernel
theorem dX12_dead_36 : decode cX12_dead 36 = .ok (.ior, 1) := by decide +kernel
theorem dX12_dead_37 : decode cX12_dead 37 = .ok (.istore_n 1, 1) := by decide +kernel
theorem dX12_dead_38 : decode cX12_dead 38 = .ok (.iinc 2 1, 3) := by decide +kernel
theorem dX12_dead_41 : decode cX12_dead 41 = .ok (.goto (-32), 3) := by decide +kernel
theorem dX12_dead_44 : decode cX12_dead 44 = .ok (.iload_n 1, 1) := by decide +kernel
theorem dX12_dead_45 : decode cX12_dead 45 = .ok (.ireturn, 1) := by decide +kernel
theorem dX0_afterAny_0 : decode cX0_afterAny 0 = .ok (.iconst 0, 1) := by decide +kernel
theorem dX0_afterAny_1 : decode cX0_afterAny 1 = .ok (.istore_n 2, 1) := by decide +kernel
theorem dX0_afterAny_2 : decode cX0_afterAny 2 = .ok (.iconst 0, 1) := by decide +kernel
theorem dX0_afterAny_3 : decode cX0_afterAny 3 = .ok (.istore_n 3, 1) := by decide +kernel
theorem dX0_afterAny_4 : decode cX0_afterAny 4 = .ok (.iload_n 3, 1) := by decide +kernel
theorem dX0_afterAny_5 : decode cX0_afterAny 5 = .ok (.aload_n 0, 1) := by decide +kernel
theorem dX0_afterAny_6 : decode cX0_afterAny 6 = .ok (.getfield 40, 3) := by decide +kernel
theorem dX0_afterAny_9 : decode cX0_afterAny 9 = .ok (.if_icmp .ge 26, 3) := by decide +kernel
theorem dX0_afterAny_12 : decode cX0_afterAny 12 = .ok (.iload_n 1, 1) := by decide +kernel
theorem dX0_afterAny_13 : decode cX0_afterAny 13 = .ok (.iload_n 3, 1) := by decide +kernel
theorem dX0_afterAny_14 : decode cX0_afterAny 14 = .ok (.invokestatic 62, 3) := by decide +kernel
theorem dX0_afterAny_17 : decode cX0_afterAny 17 = .ok (.ifCond .eq 12, 3) := by decide +kernel
theorem dX0_afterAny_20 : decode cX0_afterAny 20 = .ok (.iload_n 2, 1) := by decide +kernel
theorem dX0_afterAny_21 : decode cX0_afterAny 21 = .ok (.aload_n 0, 1) := by decide +kernel
theorem dX0_afterAny_22 : decode cX0_afterAny 22 = .ok (.getfield 22, 3) := by decide +kernel
theorem dX0_afterAny_25 : decode cX0_afterAny 25 = .ok (.iload_n 3, 1) := by decide +kernel
theorem dX0_afterAny_26 : decode cX0_afterAny 26 = .ok (.iaload, 1) := by decide +kernel
theorem dX0_afterAny_27 : decode cX0_afterAny 27 = .ok (.ior, 1) := by decide +kernel
theorem dX0_afterAny_28 : decode cX0_afterAny 28 = .ok (.istore_n 2, 1) := by decide +kernel
theorem dX0_afterAny_29 : decode cX0_afterAny 29 = .ok (.iinc 3 1, 3) := by decide +kernel
theorem dX0_afterAny_32 : decode cX0_afterAny 32 = .ok (.goto (-28), 3) := by decide +kernel
theorem dX0_afterAny_35 : decode cX0_afterAny 35 = .ok (.iload_n 2, 1) := by decide +kernel
theorem dX0_afterAny_36 : decode cX0_afterAny 36 = .ok (.ireturn, 1) := by decide +kernel
theorem dX12_allBehind_0 : decode cX12_allBehind 0 = .ok (.iconst 0, 1) := by decide +kernel
theorem dX12_allBehind_1 : decode cX12_allBehind 1 = .ok (.istore_n 2, 1) := by decide +kernel
theorem dX12_allBehind_2 : decode cX12_allBehind 2 = .ok (.iconst 0, 1) := by decide +kernel
theorem dX12_allBehind_3 : decode cX12_allBehind 3 = .ok (.istore_n 3, 1) := by decide +kernel
theorem dX12_allBehind_4 : decode cX12_allBehind 4 = .ok (.iload_n 3, 1) := by decide +kernel
theorem dX12_allBehind_5 : decode cX12_allBehind 5 = .ok (.aload_n 0, 1) := by decide +kernel
theorem dX12_allBehind_6 : decode cX12_allBehind 6 = .ok (.getfield 13, 3) := by decide +kernel
theorem dX12_allBehind_9 : decode cX12_allBehind 9 = .ok (.iconst 0, 1) := by decide +kernel
theorem dX12_allBehind_10 : decode cX12_allBehind 10 = .ok (.iaload, 1) := by decide +kernel
theorem dX12_allBehind_11 : decode cX12_allBehind 11 = .ok (.if_icmp .ge 31, 3) := by decide +kernel
theorem dX12_allBehind_14 : decode cX12_allBehind 14 = .ok (.iload_n 2, 1) := by decide +kernel
theorem dX12_allBehind_15 : decode cX12_allBehind 15 = .ok (.iload_n 1, 1) := by decide +kernel
theorem dX12_allBehind_16 : decode cX12_allBehind 16 = .ok (.iload_n 3, 1) := by decide +kernel
theorem dX12_allBehind_17 : decode cX12_allBehind 17 = .ok (.ishr, 1) := by decide +kernel
theorem dX12_allBehind_18 : decode cX12_allBehind 18 = .ok (.iconst 1, 1) := by decide +kernel
theorem dX12_allBehind_19 : decode cX12_allBehind 19 = .ok (.iand, 1) := by decide +kernel
theorem dX12_allBehind_20 : decode cX12_allBehind 20 = .ok (.iconst 1, 1) := by decide +kernel
theorem dX12_allBehind_21 : decode cX12_allBehind 21 = .ok (.if_icmp .ne 12, 3) := by decide +kernel
theorem dX12_allBehind_24 : decode cX12_allBehind 24 = .ok (.aload_n 0, 1) := by decide +kernel
theorem dX12_allBehind_25 : decode cX12_allBehind 25 = .ok (.getfield 29, 3) := by decide +kernel
theorem dX12_allBehind_28 : decode cX12_allBehind 28 = .ok (.iload_n 3, 1) := by decide +kernel
theorem dX12_allBehind_29 : decode cX12_allBehind 29 = .ok (.iaload, 1) := by decide +kernel
theorem dX12_allBehind_30 : decode cX12_allBehind 30 = .ok (.goto 4, 3) := by decide +kernel
theorem dX12_allBehind_33 : decode cX12_allBehind 33 = .ok (.iconst 0, 1) := by decide +kernel
theorem dX12_allBehind_34 : decode cX12_allBehind 34 = .ok (.ior, 1) := by decide +kernel
theorem dX12_allBehind_35 : decode cX12_allBehind 35 = .ok (.istore_n 2, 1) := by decide +kernel
theorem dX12_allBehind_36 : decode cX12_allBehind 36 = .ok (.iinc 3 1, 3) := by decide +kernel
theorem dX12_allBehind_39 : decode cX12_allBehind 39 = .ok (.goto (-35), 3) := by decide +kernel
theorem dX12_allBehind_42 : decode cX12_allBehind 42 = .ok (.iload_n 2, 1) := by decide +kernel
theorem dX12_allBehind_43 : decode cX12_allBehind 43 = .ok (.ireturn, 1) := by decide +kernel
set_option maxHeartbeats 4000000 in
set_option maxRecDepth 100000 in
theorem lp_X11_dead {γ : kΓ} {l : Launch} {p9 : Program} {e : Env} {s : State} {m : MethodId} {below : List Frame} {meth : Method} {c : Code} {A : Nat → Prop} (x : Nat) (x0 : Nat) (x1 : Nat) (x2 : Nat) (x3 : Nat) (x4 : Nat) (x5 : Nat) (x6 : Nat) (x7 : Nat) (x8 : Nat) (x9 : Nat) (x10 : Nat) (a0 : Nat) (a1 : Nat) (a2 : Nat) (a3 : Nat) (a4 : Nat) (a5 : Nat) (a6 : Nat) (a7 : Nat) (T : Nat) (t9 : Int32) (t10 : Int32) (t11 : Int32) (t12 : Int32) (t13 : Int32) (t14 : Int32) (t15 : Int32) (t16 : Int32) (t17 : Int32) (t18 : Int32) (af : Nat → Int32) (hT : T ≤ 8) (hC : kC γ p9 s m [.ref x].toArray c cX11_dead 3 RX11 A) (hr : meth.sig.returnType = (some .int)) (hlocks : meth.locks = false) : ∀ (k : Nat) (i : Nat), T - i < k → (i ≤ T) → ∀ (H : Heap) (locs : List Loc), kW γ A [(x, .inr (10, [.ref x0, .ref x1, .ref x2, .ref x3, .ref x4, .ref x5, .ref x6, .ref x7, .ref x8, .ref x9, .ref x10])), (x9, .inr (0, [.ref a0, .ref a1, .ref a2, .ref a3, .ref a4, .ref a5, .ref a6, .ref a7, .int (nI T), .int t9, .int t10, .int t11, .int t12, .int t13, .int t14, .int t15, .int t16, .int t17, .int t18])), (a3, .inl (γ.2.1 0, 8, .inl af))] s H locs → ∀ ls : Array Slot, lv_has ls 3 [(2, .int (nI i)), (1, .int (deF af i)), (0, .ref x)] → W p9 l e ({ frames := 0, cells := 0, slots := 0, locals := 0 } : Room) s m [.ref x].toArray below meth c H locs 0 0 (MQ below (kQ γ A (fun r w1 => r = some (.int (deF af T)) ∧ w1 = [(x, .inr (10, [.ref x0, .ref x1, .ref x2, .ref x3, .ref x4, .ref x5, .ref x6, .ref x7, .ref x8, .ref x9, .ref x10])), (x9, .inr (0, [.ref a0, .ref a1, .ref a2, .ref a3, .ref a4, .ref a5, .ref a6, .ref a7, .int (nI T), .int t9, .int t10, .int t11, .int t12, .int t13, .int t14, .int t15, .int t16, .int t17, .int t18])), (a3, .inl (γ.2.1 0, 8, .inl af))])) [.ref x].toArray s 0 0 A) (F0 m 4 ls []) := by
  have hx := hC.1
  have hb := hC.2.1
  intro k
  induction k with
  | zero => intro i hk; exact absurd hk (Nat.not_lt_zero _)
  | succ k ih =>
    intro i hk hi H locs hw ls hl
    refine lv_iload_n hx hb dX11_dead_4 rfl (lv_at hl 0 rfl) ?_
    refine lv_aload_n hx hb dX11_dead_5 rfl (lv_at hl 2 rfl) ?_
    refine fg_RX11_65 hC hw 0 rfl rfl dX11_dead_6 ?_
    refine fg_RX11_108 hC hw 1 rfl rfl dX11_dead_9 ?_
    refine lv_icmp_ge (tgt := 39) hx hb dX11_dead_12 (by decide) (fun c1 => ?_) (fun c1 => ?_)
    · have hi9 : i = T := by have h9 := (nI_leI (a := T) (b := i) (by omega) (by omega)).mp c1; omega
      rw [hi9] at hl
      refine lv_iload_n hx hb dX11_dead_39 rfl (lv_at hl 1 rfl) ?_
      exact k_iret hC hr hlocks hw [0, 1, 2] rfl rfl ⟨rfl, rfl⟩ (by decide) (by decide) dX11_dead_40
    · have hi9 : i < T := by rcases Nat.lt_or_ge i T with h9 | h9; exact h9; exact absurd (nI_le h9 (by omega)) c1
      refine lv_aload_n hx hb dX11_dead_15 rfl (lv_at hl 2 rfl) ?_
      refine fg_RX11_65 hC hw 0 rfl rfl dX11_dead_16 ?_
      refine fg_RX11_128 hC hw 1 rfl rfl dX11_dead_19 ?_
      refine lv_iload_n hx hb dX11_dead_22 rfl (lv_at hl 0 rfl) ?_
      refine k_iald hC hw 2 rfl (vp_in_nI (by omega) (by decide)) dX11_dead_23 ?_
      refine lv_topi (fun x_55 ex_55 => ?_)
      obtain rfl : x_55 = af i := (show x_55 = af (nI i : Int32).toNatClampNeg from ex_55).trans (by rw [nI_clamp (by omega)])
      refine lv_if_ne (tgt := 33) hx hb dX11_dead_24 (by decide) (fun c2 => ?_) (fun c2 => ?_)
      · rw [dF_n c2] at hl
        refine lv_iinc (v := (nI (i + 1))) (lv' := [(2, .int (nI (i + 1))), (1, .int (deF af (i + 1))), (0, .ref x)]) hx hb dX11_dead_33 hl (k := 0) rfl (nI_1 i) (by decide) rfl (fun ls hl => ?_)
        refine lv_goto (tgt := 4) hx hb dX11_dead_36 (by decide) ?_
        exact ih (i + 1) (by omega) (by omega) _ _ (kW.sub hw [0, 1, 2] rfl rfl) _ (lv_sub hl [0, 1, 2] rfl)
      · refine lv_iload_n hx hb dX11_dead_27 rfl (lv_at hl 1 rfl) ?_
        refine lv_iconst (v := 1) hx hb dX11_dead_28 (by decide) ?_
        refine lv_iload_n hx hb dX11_dead_29 rfl (lv_at hl 0 rfl) ?_
        refine lv_ishl hx hb dX11_dead_30 ?_
        refine lv_ior hx hb dX11_dead_31 ?_
        refine lv_topi (fun x_56 ex_56 => ?_)
        obtain rfl : x_56 = (deF af (i + 1)) := ex_56.trans (dF_p c2)
        refine lv_istore_n (lv' := [(1, .int (deF af (i + 1))), (2, .int (nI i)), (0, .ref x)]) hx hb dX11_dead_32 rfl hl (by decide) rfl (fun ls hl => ?_)
        refine lv_iinc (v := (nI (i + 1))) (lv' := [(2, .int (nI (i + 1))), (1, .int (deF af (i + 1))), (0, .ref x)]) hx hb dX11_dead_33 hl (k := 1) rfl (nI_1 i) (by decide) rfl (fun ls hl => ?_)
        refine lv_goto (tgt := 4) hx hb dX11_dead_36 (by decide) ?_
        exact ih (i + 1) (by omega) (by omega) _ _ (kW.sub hw [0, 1, 2] rfl rfl) _ (lv_sub hl [0, 1, 2] rfl)

set_option maxHeartbeats 4000000 in
set_option maxRecDepth 100000 in
theorem c_X11_dead (γ : kΓ) (l : Launch) (x : Nat) (x0 : Nat) (x1 : Nat) (x2 : Nat) (x3 : Nat) (x4 : Nat) (x5 : Nat) (x6 : Nat) (x7 : Nat) (x8 : Nat) (x9 : Nat) (x10 : Nat) (a0 : Nat) (a1 : Nat) (a2 : Nat) (a3 : Nat) (a4 : Nat) (a5 : Nat) (a6 : Nat) (a7 : Nat) (T : Nat) (t9 : Int32) (t10 : Int32) (t11 : Int32) (t12 : Int32) (t13 : Int32) (t14 : Int32) (t15 : Int32) (t16 : Int32) (t17 : Int32) (t18 : Int32) (af : Nat → Int32) (hT : T ≤ 8) : kM γ l yX11_dead cX11_dead 3 ((some .int)) ({ frames := 0, cells := 0, slots := 0, locals := 0 } : Room) [.ref x] [(x, .inr (10, [.ref x0, .ref x1, .ref x2, .ref x3, .ref x4, .ref x5, .ref x6, .ref x7, .ref x8, .ref x9, .ref x10])), (x9, .inr (0, [.ref a0, .ref a1, .ref a2, .ref a3, .ref a4, .ref a5, .ref a6, .ref a7, .int (nI T), .int t9, .int t10, .int t11, .int t12, .int t13, .int t14, .int t15, .int t16, .int t17, .int t18])), (a3, .inl (γ.2.1 0, 8, .inl af))] (fun r w1 => r = some (.int (deF af T)) ∧ w1 = [(x, .inr (10, [.ref x0, .ref x1, .ref x2, .ref x3, .ref x4, .ref x5, .ref x6, .ref x7, .ref x8, .ref x9, .ref x10])), (x9, .inr (0, [.ref a0, .ref a1, .ref a2, .ref a3, .ref a4, .ref a5, .ref a6, .ref a7, .int (nI T), .int t9, .int t10, .int t11, .int t12, .int t13, .int t14, .int t15, .int t16, .int t17, .int t18])), (a3, .inl (γ.2.1 0, 8, .inl af))]) := by
  refine k_ofW (by decide) (Nat.le_of_ble_eq_true rfl) ?_
  intro p9 e s m below meth c A ls hC hr hlocks hname hw hl
  have hx := hC.1
  have hb := hC.2.1
  have hl : lv_has ls 3 [(0, .ref x)] := hl
  refine lv_iconst (v := 0) hx hb dX11_dead_0 (by decide) ?_
  refine lv_istore_n (lv' := [(1, .int 0), (0, .ref x)]) hx hb dX11_dead_1 rfl hl (by decide) rfl (fun ls hl => ?_)
  refine lv_iconst (v := 0) hx hb dX11_dead_2 (by decide) ?_
  refine lv_istore_n (lv' := [(2, .int 0), (1, .int 0), (0, .ref x)]) hx hb dX11_dead_3 rfl hl (by decide) rfl (fun ls hl => ?_)
  exact lp_X11_dead x x0 x1 x2 x3 x4 x5 x6 x7 x8 x9 x10 a0 a1 a2 a3 a4 a5 a6 a7 T t9 t10 t11 t12 t13 t14 t15 t16 t17 t18 af hT hC hr hlocks (T + 1) 0 (by omega) (Nat.zero_le T) _ _ hw _ (lv_sub hl [0, 1, 2] rfl)

set_option maxHeartbeats 4000000 in
set_option maxRecDepth 100000 in
theorem lp_X12_dead {γ : kΓ} {l : Launch} {p9 : Program} {e : Env} {s : State} {m : MethodId} {below : List Frame} {meth : Method} {c : Code} {A : Nat → Prop} (z : Nat) (z2 : Nat) (z10 : Nat) (z11 : Nat) (z12 : Nat) (z13 : Nat) (z14 : Nat) (z15 : Nat) (z16 : Nat) (z17 : Nat) (z18 : Nat) (z19 : Nat) (z22 : Nat) (z23 : Nat) (z24 : Nat) (z25 : Nat) (z26 : Nat) (z27 : Nat) (z28 : Nat) (z29 : Nat) (z30 : Nat) (z31 : Nat) (z32 : Nat) (z33 : Nat) (z36 : Nat) (z37 : Nat) (z38 : Nat) (z39 : Nat) (z40 : Nat) (z41 : Nat) (z42 : Nat) (z43 : Nat) (z44 : Nat) (z45 : Nat) (z46 : Nat) (z47 : Nat) (z48 : Nat) (z55 : Nat) (z56 : Nat) (z59 : Nat) (z60 : Nat) (z61 : Nat) (n0 : Int32) (n1 : Int32) (n3 : Int32) (n4 : Int32) (n5 : Int32) (n6 : Int32) (n7 : Int64) (n8 : Int32) (n9 : Int32) (n20 : Int32) (n21 : Int32) (n34 : Int32) (n35 : Int64) (n49 : Int32) (n50 : Int32) (n51 : Int32) (n52 : Int32) (n53 : Int32) (n54 : Int32) (n57 : Int32) (n58 : Int32) (n62 : Int32) (n63 : Int64) (ab : Nat → Int32) (bh : Nat → Int32) (T : Nat) (h0 : ab 0 = nI T) (hT : T ≤ 8) (hC : kC γ p9 s m [.ref z].toArray c cX12_dead 3 RX12 A) (hr : meth.sig.returnType = (some .int)) (hlocks : meth.locks = false) : ∀ (k : Nat) (i : Nat), T - i < k → (i ≤ T) → ∀ (H : Heap) (locs : List Loc), kW γ A [(z, .inr (11, [.int 0, .int n1, .ref z2, .int n3, .int n4, .int n5, .int n6, .long n7, .int n8, .int n9, .ref z10, .ref z11, .ref z12, .ref z13, .ref z14, .ref z15, .ref z16, .ref z17, .ref z18, .ref z19, .int n20, .int n21, .ref z22, .ref z23, .ref z24, .ref z25, .ref z26, .ref z27, .ref z28, .ref z29, .ref z30, .ref z31, .ref z32, .ref z33, .int n34, .long n35, .ref z36, .ref z37, .ref z38, .ref z39, .ref z40, .ref z41, .ref z42, .ref z43, .ref z44, .ref z45, .ref z46, .ref z47, .ref z48, .int n49, .int n50, .int n51, .int n52, .int n53, .int n54, .ref z55, .ref z56, .int n57, .int n58, .ref z59, .ref z60, .ref z61, .int n62, .long n63])), (z10, .inl (γ.2.1 0, 10, .inl ab)), (z15, .inl (γ.2.1 0, 16, .inl bh))] s H locs → ∀ ls : Array Slot, lv_has ls 3 [(2, .int (nI i)), (1, .int (deF bh i)), (0, .ref z)] → W p9 l e ({ frames := 0, cells := 0, slots := 0, locals := 0 } : Room) s m [.ref z].toArray below meth c H locs 0 0 (MQ below (kQ γ A (fun r w1 => r = some (.int (deF bh T)) ∧ w1 = [(z, .inr (11, [.int 0, .int n1, .ref z2, .int n3, .int n4, .int n5, .int n6, .long n7, .int n8, .int n9, .ref z10, .ref z11, .ref z12, .ref z13, .ref z14, .ref z15, .ref z16, .ref z17, .ref z18, .ref z19, .int n20, .int n21, .ref z22, .ref z23, .ref z24, .ref z25, .ref z26, .ref z27, .ref z28, .ref z29, .ref z30, .ref z31, .ref z32, .ref z33, .int n34, .long n35, .ref z36, .ref z37, .ref z38, .ref z39, .ref z40, .ref z41, .ref z42, .ref z43, .ref z44, .ref z45, .ref z46, .ref z47, .ref z48, .int n49, .int n50, .int n51, .int n52, .int n53, .int n54, .ref z55, .ref z56, .int n57, .int n58, .ref z59, .ref z60, .ref z61, .int n62, .long n63])), (z10, .inl (γ.2.1 0, 10, .inl ab)), (z15, .inl (γ.2.1 0, 16, .inl bh))])) [.ref z].toArray s 0 0 A) (F0 m 9 ls []) := by
  have hx := hC.1
  have hb := hC.2.1
  intro k
  induction k with
  | zero => intro i hk; exact absurd hk (Nat.not_lt_zero _)
  | succ k ih =>
    intro i hk hi H locs hw ls hl
    refine lv_iload_n hx hb dX12_dead_9 rfl (lv_at hl 0 rfl) ?_
    refine lv_aload_n hx hb dX12_dead_10 rfl (lv_at hl 2 rfl) ?_
    refine fg_RX12_13 hC hw 0 rfl rfl dX12_dead_11 ?_
    refine lv_iconst (v := 0) hx hb dX12_dead_14 (by decide) ?_
    refine k_iald hC hw 1 rfl (k_in0 (by decide)) dX12_dead_15 ?_
    refine lv_topi (fun x_57 ex_57 => ?_)
    obtain rfl : x_57 = (nI T) := (show x_57 = ab 0 from ex_57).trans h0
    refine lv_icmp_ge (tgt := 44) hx hb dX12_dead_16 (by decide) (fun c1 => ?_) (fun c1 => ?_)
    · have hi9 : i = T := by have h9 := (nI_leI (a := T) (b := i) (by omega) (by omega)).mp c1; omega
      rw [hi9] at hl
      refine lv_iload_n hx hb dX12_dead_44 rfl (lv_at hl 1 rfl) ?_
      exact k_iret hC hr hlocks hw [0, 1, 2] rfl rfl ⟨rfl, rfl⟩ (by decide) (by decide) dX12_dead_45
    · have hi9 : i < T := by rcases Nat.lt_or_ge i T with h9 | h9; exact h9; exact absurd (nI_le h9 (by omega)) c1
      refine lv_iload_n hx hb dX12_dead_19 rfl (lv_at hl 1 rfl) ?_
      refine lv_aload_n hx hb dX12_dead_20 rfl (lv_at hl 2 rfl) ?_
      refine fg_RX12_29 hC hw 0 rfl rfl dX12_dead_21 ?_
      refine lv_iload_n hx hb dX12_dead_24 rfl (lv_at hl 0 rfl) ?_
      refine k_iald hC hw 2 rfl (vp_in_nI (by omega) (by decide)) dX12_dead_25 ?_
      refine lv_topi (fun x_58 ex_58 => ?_)
      obtain rfl : x_58 = bh i := (show x_58 = bh (nI i : Int32).toNatClampNeg from ex_58).trans (by rw [nI_clamp (by omega)])
      refine lv_if_ne (tgt := 35) hx hb dX12_dead_26 (by decide) (fun c2 => ?_) (fun c2 => ?_)
      · refine lv_iconst (v := 0) hx hb dX12_dead_35 (by decide) ?_
        refine lv_ior hx hb dX12_dead_36 ?_
        refine lv_topi (fun x_59 ex_59 => ?_)
        obtain rfl : x_59 = (deF bh (i + 1)) := ex_59.trans ((Int32.or_zero ..).trans (dF_n c2))
        refine lv_istore_n (lv' := [(1, .int (deF bh (i + 1))), (2, .int (nI i)), (0, .ref z)]) hx hb dX12_dead_37 rfl hl (by decide) rfl (fun ls hl => ?_)
        refine lv_iinc (v := (nI (i + 1))) (lv' := [(2, .int (nI (i + 1))), (1, .int (deF bh (i + 1))), (0, .ref z)]) hx hb dX12_dead_38 hl (k := 1) rfl (nI_1 i) (by decide) rfl (fun ls hl => ?_)
        refine lv_goto (tgt := 9) hx hb dX12_dead_41 (by decide) ?_
        exact ih (i + 1) (by omega) (by omega) _ _ (kW.sub hw [0, 1, 2] rfl rfl) _ (lv_sub hl [0, 1, 2] rfl)
      · refine lv_iconst (v := 1) hx hb dX12_dead_29 (by decide) ?_
        refine lv_iload_n hx hb dX12_dead_30 rfl (lv_at hl 0 rfl) ?_
        refine lv_ishl hx hb dX12_dead_31 ?_
        refine lv_goto (tgt := 36) hx hb dX12_dead_32 (by decide) ?_
        refine lv_ior hx hb dX12_dead_36 ?_
        refine lv_topi (fun x_60 ex_60 => ?_)
        obtain rfl : x_60 = (deF bh (i + 1)) := ex_60.trans (dF_p c2)
        refine lv_istore_n (lv' := [(1, .int (deF bh (i + 1))), (2, .int (nI i)), (0, .ref z)]) hx hb dX12_dead_37 rfl hl (by decide) rfl (fun ls hl => ?_)
        refine lv_iinc (v := (nI (i + 1))) (lv' := [(2, .int (nI (i + 1))), (1, .int (deF bh (i + 1))), (0, .ref z)]) hx hb dX12_dead_38 hl (k := 1) rfl (nI_1 i) (by decide) rfl (fun ls hl => ?_)
        refine lv_goto (tgt := 9) hx hb dX12_dead_41 (by decide) ?_
        exact ih (i + 1) (by omega) (by omega) _ _ (kW.sub hw [0, 1, 2] rfl rfl) _ (lv_sub hl [0, 1, 2] rfl)

set_option maxHeartbeats 4000000 in
set_option maxRecDepth 100000 in
theorem c_X12_dead (γ : kΓ) (l : Launch) (z : Nat) (z2 : Nat) (z10 : Nat) (z11 : Nat) (z12 : Nat) (z13 : Nat) (z14 : Nat) (z15 : Nat) (z16 : Nat) (z17 : Nat) (z18 : Nat) (z19 : Nat) (z22 : Nat) (z23 : Nat) (z24 : Nat) (z25 : Nat) (z26 : Nat) (z27 : Nat) (z28 : Nat) (z29 : Nat) (z30 : Nat) (z31 : Nat) (z32 : Nat) (z33 : Nat) (z36 : Nat) (z37 : Nat) (z38 : Nat) (z39 : Nat) (z40 : Nat) (z41 : Nat) (z42 : Nat) (z43 : Nat) (z44 : Nat) (z45 : Nat) (z46 : Nat) (z47 : Nat) (z48 : Nat) (z55 : Nat) (z56 : Nat) (z59 : Nat) (z60 : Nat) (z61 : Nat) (n0 : Int32) (n1 : Int32) (n3 : Int32) (n4 : Int32) (n5 : Int32) (n6 : Int32) (n7 : Int64) (n8 : Int32) (n9 : Int32) (n20 : Int32) (n21 : Int32) (n34 : Int32) (n35 : Int64) (n49 : Int32) (n50 : Int32) (n51 : Int32) (n52 : Int32) (n53 : Int32) (n54 : Int32) (n57 : Int32) (n58 : Int32) (n62 : Int32) (n63 : Int64) (ab : Nat → Int32) (bh : Nat → Int32) (T : Nat) (h0 : ab 0 = nI T) (hT : T ≤ 8) : kM γ l yX12_dead cX12_dead 3 ((some .int)) ({ frames := 0, cells := 0, slots := 0, locals := 0 } : Room) [.ref z] [(z, .inr (11, [.int n0, .int n1, .ref z2, .int n3, .int n4, .int n5, .int n6, .long n7, .int n8, .int n9, .ref z10, .ref z11, .ref z12, .ref z13, .ref z14, .ref z15, .ref z16, .ref z17, .ref z18, .ref z19, .int n20, .int n21, .ref z22, .ref z23, .ref z24, .ref z25, .ref z26, .ref z27, .ref z28, .ref z29, .ref z30, .ref z31, .ref z32, .ref z33, .int n34, .long n35, .ref z36, .ref z37, .ref z38, .ref z39, .ref z40, .ref z41, .ref z42, .ref z43, .ref z44, .ref z45, .ref z46, .ref z47, .ref z48, .int n49, .int n50, .int n51, .int n52, .int n53, .int n54, .ref z55, .ref z56, .int n57, .int n58, .ref z59, .ref z60, .ref z61, .int n62, .long n63])), (z10, .inl (γ.2.1 0, 10, .inl ab)), (z15, .inl (γ.2.1 0, 16, .inl bh))] (fun r w1 => r = some (.int (deF bh T)) ∧ w1 = [(z, .inr (11, [.int 0, .int n1, .ref z2, .int n3, .int n4, .int n5, .int n6, .long n7, .int n8, .int n9, .ref z10, .ref z11, .ref z12, .ref z13, .ref z14, .ref z15, .ref z16, .ref z17, .ref z18, .ref z19, .int n20, .int n21, .ref z22, .ref z23, .ref z24, .ref z25, .ref z26, .ref z27, .ref z28, .ref z29, .ref z30, .ref z31, .ref z32, .ref z33, .int n34, .long n35, .ref z36, .ref z37, .ref z38, .ref z39, .ref z40, .ref z41, .ref z42, .ref z43, .ref z44, .ref z45, .ref z46, .ref z47, .ref z48, .int n49, .int n50, .int n51, .int n52, .int n53, .int n54, .ref z55, .ref z56, .int n57, .int n58, .ref z59, .ref z60, .ref z61, .int n62, .long n63])), (z10, .inl (γ.2.1 0, 10, .inl ab)), (z15, .inl (γ.2.1 0, 16, .inl bh))]) := by
  refine k_ofW (by decide) (Nat.le_of_ble_eq_true rfl) ?_
  intro p9 e s m below meth c A ls hC hr hlocks hname hw hl
  have hx := hC.1
  have hb := hC.2.1
  have hl : lv_has ls 3 [(0, .ref z)] := hl
  refine lv_aload_n hx hb dX12_dead_0 rfl (lv_at hl 0 rfl) ?_
  refine lv_iconst (v := 0) hx hb dX12_dead_1 (by decide) ?_
  refine fs_RX12_143 hC hw 0 rfl rfl rfl (Nat.le_of_ble_eq_true rfl) dX12_dead_2 (fun H locs hw => ?_)
  have hw : kW γ A [(z, .inr (11, [.int 0, .int n1, .ref z2, .int n3, .int n4, .int n5, .int n6, .long n7, .int n8, .int n9, .ref z10, .ref z11, .ref z12, .ref z13, .ref z14, .ref z15, .ref z16, .ref z17, .ref z18, .ref z19, .int n20, .int n21, .ref z22, .ref z23, .ref z24, .ref z25, .ref z26, .ref z27, .ref z28, .ref z29, .ref z30, .ref z31, .ref z32, .ref z33, .int n34, .long n35, .ref z36, .ref z37, .ref z38, .ref z39, .ref z40, .ref z41, .ref z42, .ref z43, .ref z44, .ref z45, .ref z46, .ref z47, .ref z48, .int n49, .int n50, .int n51, .int n52, .int n53, .int n54, .ref z55, .ref z56, .int n57, .int n58, .ref z59, .ref z60, .ref z61, .int n62, .long n63])), (z10, .inl (γ.2.1 0, 10, .inl ab)), (z15, .inl (γ.2.1 0, 16, .inl bh))] s H locs := hw
  refine lv_iconst (v := 0) hx hb dX12_dead_5 (by decide) ?_
  refine lv_istore_n (lv' := [(1, .int 0), (0, .ref z)]) hx hb dX12_dead_6 rfl hl (by decide) rfl (fun ls hl => ?_)
  refine lv_iconst (v := 0) hx hb dX12_dead_7 (by decide) ?_
  refine lv_istore_n (lv' := [(2, .int 0), (1, .int 0), (0, .ref z)]) hx hb dX12_dead_8 rfl hl (by decide) rfl (fun ls hl => ?_)
  exact lp_X12_dead z z2 z10 z11 z12 z13 z14 z15 z16 z17 z18 z19 z22 z23 z24 z25 z26 z27 z28 z29 z30 z31 z32 z33 z36 z37 z38 z39 z40 z41 z42 z43 z44 z45 z46 z47 z48 z55 z56 z59 z60 z61 n0 n1 n3 n4 n5 n6 n7 n8 n9 n20 n21 n34 n35 n49 n50 n51 n52 n53 n54 n57 n58 n62 n63 ab bh T h0 hT hC hr hlocks (T + 1) 0 (by omega) (Nat.zero_le T) _ _ hw _ (lv_sub hl [0, 1, 2] rfl)

set_option maxHeartbeats 4000000 in
set_option maxRecDepth 100000 in
theorem lp_X0_afterAny {γ : kΓ} {l : Launch} {p9 : Program} {e : Env} {s : State} {m : MethodId} {below : List Frame} {meth : Method} {c : Code} {A : Nat → Prop} (h : Nat) (a0 : Nat) (a1 : Nat) (a2 : Nat) (a3 : Nat) (a4 : Nat) (a5 : Nat) (a6 : Nat) (a7 : Nat) (T : Nat) (t9 : Int32) (t10 : Int32) (t11 : Int32) (t12 : Int32) (t13 : Int32) (t14 : Int32) (t15 : Int32) (t16 : Int32) (t17 : Int32) (t18 : Int32) (af : Nat → Int32) (set : Int32) (hT : T ≤ 8) (hC : kC γ p9 s m [.ref h, .int set].toArray c cX0_afterAny 4 RX0 A) (hr : meth.sig.returnType = (some .int)) (hlocks : meth.locks = false) : ∀ (k : Nat) (i : Nat), T - i < k → (i ≤ T) → ∀ (H : Heap) (locs : List Loc), kW γ A [(h, .inr (0, [.ref a0, .ref a1, .ref a2, .ref a3, .ref a4, .ref a5, .ref a6, .ref a7, .int (nI T), .int t9, .int t10, .int t11, .int t12, .int t13, .int t14, .int t15, .int t16, .int t17, .int t18])), (a3, .inl (γ.2.1 0, 8, .inl af))] s H locs → ∀ ls : Array Slot, lv_has ls 4 [(3, .int (nI i)), (2, .int (aF af set i)), (0, .ref h), (1, .int set)] → W p9 l e ({ frames := 1, cells := 0, slots := 0, locals := 21 } : Room) s m [.ref h, .int set].toArray below meth c H locs 0 0 (MQ below (kQ γ A (fun r w1 => r = some (.int (aF af set T)) ∧ w1 = [(h, .inr (0, [.ref a0, .ref a1, .ref a2, .ref a3, .ref a4, .ref a5, .ref a6, .ref a7, .int (nI T), .int t9, .int t10, .int t11, .int t12, .int t13, .int t14, .int t15, .int t16, .int t17, .int t18])), (a3, .inl (γ.2.1 0, 8, .inl af))])) [.ref h, .int set].toArray s 0 0 A) (F0 m 4 ls []) := by
  have hx := hC.1
  have hb := hC.2.1
  intro k
  induction k with
  | zero => intro i hk; exact absurd hk (Nat.not_lt_zero _)
  | succ k ih =>
    intro i hk hi H locs hw ls hl
    refine lv_iload_n hx hb dX0_afterAny_4 rfl (lv_at hl 0 rfl) ?_
    refine lv_aload_n hx hb dX0_afterAny_5 rfl (lv_at hl 2 rfl) ?_
    refine fg_RX0_40 hC hw 0 rfl rfl dX0_afterAny_6 ?_
    refine lv_icmp_ge (tgt := 35) hx hb dX0_afterAny_9 (by decide) (fun c1 => ?_) (fun c1 => ?_)
    · have hi9 : i = T := by have h9 := (nI_leI (a := T) (b := i) (by omega) (by omega)).mp c1; omega
      rw [hi9] at hl
      refine lv_iload_n hx hb dX0_afterAny_35 rfl (lv_at hl 1 rfl) ?_
      exact k_iret hC hr hlocks hw [0, 1] rfl rfl ⟨rfl, rfl⟩ (by decide) (by decide) dX0_afterAny_36
    · have hi9 : i < T := by rcases Nat.lt_or_ge i T with h9 | h9; exact h9; exact absurd (nI_le h9 (by omega)) c1
      refine lv_iload_n hx hb dX0_afterAny_12 rfl (lv_at hl 3 rfl) ?_
      refine lv_iload_n hx hb dX0_afterAny_13 rfl (lv_at hl 0 rfl) ?_
      refine k_SN (wr := [(h, .inr (0, [.ref a0, .ref a1, .ref a2, .ref a3, .ref a4, .ref a5, .ref a6, .ref a7, .int (nI T), .int t9, .int t10, .int t11, .int t12, .int t13, .int t14, .int t15, .int t16, .int t17, .int t18])), (a3, .inl (γ.2.1 0, 8, .inl af))]) 2 nw_555 gw_556 gw_1 gw_557 hd_X11_isIn hC hw (c_isIn γ l set (nI i)) ⟨by decide, by decide⟩ ⟨by decide, by decide⟩ hl.1 rfl rfl (Nat.le_of_ble_eq_true rfl) [] [0, 1] rfl rfl rfl rfl (by decide) dX0_afterAny_14 (fun r w1 H locs hq hw => ?_)
      obtain ⟨rfl, rfl⟩ := hq
      have hw : kW γ A [(h, .inr (0, [.ref a0, .ref a1, .ref a2, .ref a3, .ref a4, .ref a5, .ref a6, .ref a7, .int (nI T), .int t9, .int t10, .int t11, .int t12, .int t13, .int t14, .int t15, .int t16, .int t17, .int t18])), (a3, .inl (γ.2.1 0, 8, .inl af))] s H locs := hw
      refine W.eq (g2 := F0 m 17 ls [.int (F_isIn set (nI i))]) rfl ?_
      refine lv_if_eq (tgt := 29) hx hb dX0_afterAny_17 (by decide) (fun c2 => ?_) (fun c2 => ?_)
      · rw [aF_p c2] at hl
        refine lv_iinc (v := (nI (i + 1))) (lv' := [(3, .int (nI (i + 1))), (2, .int (aF af set (i + 1))), (0, .ref h), (1, .int set)]) hx hb dX0_afterAny_29 hl (k := 0) rfl (nI_1 i) (by decide) rfl (fun ls hl => ?_)
        refine lv_goto (tgt := 4) hx hb dX0_afterAny_32 (by decide) ?_
        exact ih (i + 1) (by omega) (by omega) _ _ (kW.sub hw [0, 1] rfl rfl) _ (lv_sub hl [0, 1, 2, 3] rfl)
      · refine lv_iload_n hx hb dX0_afterAny_20 rfl (lv_at hl 1 rfl) ?_
        refine lv_aload_n hx hb dX0_afterAny_21 rfl (lv_at hl 2 rfl) ?_
        refine fg_RX0_22 hC hw 0 rfl rfl dX0_afterAny_22 ?_
        refine lv_iload_n hx hb dX0_afterAny_25 rfl (lv_at hl 0 rfl) ?_
        refine k_iald hC hw 1 rfl (vp_in_nI (by omega) (by decide)) dX0_afterAny_26 ?_
        refine lv_topi (fun x_61 ex_61 => ?_)
        obtain rfl : x_61 = af i := (show x_61 = af (nI i : Int32).toNatClampNeg from ex_61).trans (by rw [nI_clamp (by omega)])
        refine lv_ior hx hb dX0_afterAny_27 ?_
        refine lv_topi (fun x_62 ex_62 => ?_)
        obtain rfl : x_62 = (aF af set (i + 1)) := ex_62.trans (aF_n c2)
        refine lv_istore_n (lv' := [(2, .int (aF af set (i + 1))), (3, .int (nI i)), (0, .ref h), (1, .int set)]) hx hb dX0_afterAny_28 rfl hl (by decide) rfl (fun ls hl => ?_)
        refine lv_iinc (v := (nI (i + 1))) (lv' := [(3, .int (nI (i + 1))), (2, .int (aF af set (i + 1))), (0, .ref h), (1, .int set)]) hx hb dX0_afterAny_29 hl (k := 1) rfl (nI_1 i) (by decide) rfl (fun ls hl => ?_)
        refine lv_goto (tgt := 4) hx hb dX0_afterAny_32 (by decide) ?_
        exact ih (i + 1) (by omega) (by omega) _ _ (kW.sub hw [0, 1] rfl rfl) _ (lv_sub hl [0, 1, 2, 3] rfl)

set_option maxHeartbeats 4000000 in
set_option maxRecDepth 100000 in
theorem c_X0_afterAny (γ : kΓ) (l : Launch) (h : Nat) (a0 : Nat) (a1 : Nat) (a2 : Nat) (a3 : Nat) (a4 : Nat) (a5 : Nat) (a6 : Nat) (a7 : Nat) (T : Nat) (t9 : Int32) (t10 : Int32) (t11 : Int32) (t12 : Int32) (t13 : Int32) (t14 : Int32) (t15 : Int32) (t16 : Int32) (t17 : Int32) (t18 : Int32) (af : Nat → Int32) (set : Int32) (hT : T ≤ 8) : kM γ l yX0_afterAny cX0_afterAny 4 ((some .int)) ({ frames := 1, cells := 0, slots := 0, locals := 21 } : Room) [.ref h, .int set] [(h, .inr (0, [.ref a0, .ref a1, .ref a2, .ref a3, .ref a4, .ref a5, .ref a6, .ref a7, .int (nI T), .int t9, .int t10, .int t11, .int t12, .int t13, .int t14, .int t15, .int t16, .int t17, .int t18])), (a3, .inl (γ.2.1 0, 8, .inl af))] (fun r w1 => r = some (.int (aF af set T)) ∧ w1 = [(h, .inr (0, [.ref a0, .ref a1, .ref a2, .ref a3, .ref a4, .ref a5, .ref a6, .ref a7, .int (nI T), .int t9, .int t10, .int t11, .int t12, .int t13, .int t14, .int t15, .int t16, .int t17, .int t18])), (a3, .inl (γ.2.1 0, 8, .inl af))]) := by
  refine k_ofW (by decide) (Nat.le_of_ble_eq_true rfl) ?_
  intro p9 e s m below meth c A ls hC hr hlocks hname hw hl
  have hx := hC.1
  have hb := hC.2.1
  have hl : lv_has ls 4 [(0, .ref h), (1, .int set)] := hl
  refine lv_iconst (v := 0) hx hb dX0_afterAny_0 (by decide) ?_
  refine lv_istore_n (lv' := [(2, .int 0), (0, .ref h), (1, .int set)]) hx hb dX0_afterAny_1 rfl hl (by decide) rfl (fun ls hl => ?_)
  refine lv_iconst (v := 0) hx hb dX0_afterAny_2 (by decide) ?_
  refine lv_istore_n (lv' := [(3, .int 0), (2, .int 0), (0, .ref h), (1, .int set)]) hx hb dX0_afterAny_3 rfl hl (by decide) rfl (fun ls hl => ?_)
  exact lp_X0_afterAny h a0 a1 a2 a3 a4 a5 a6 a7 T t9 t10 t11 t12 t13 t14 t15 t16 t17 t18 af set hT hC hr hlocks (T + 1) 0 (by omega) (Nat.zero_le T) _ _ hw _ (lv_sub hl [0, 1, 2, 3] rfl)

set_option maxHeartbeats 4000000 in
set_option maxRecDepth 100000 in
theorem lp_X12_allBehind {γ : kΓ} {l : Launch} {p9 : Program} {e : Env} {s : State} {m : MethodId} {below : List Frame} {meth : Method} {c : Code} {A : Nat → Prop} (z : Nat) (z2 : Nat) (z10 : Nat) (z11 : Nat) (z12 : Nat) (z13 : Nat) (z14 : Nat) (z15 : Nat) (z16 : Nat) (z17 : Nat) (z18 : Nat) (z19 : Nat) (z22 : Nat) (z23 : Nat) (z24 : Nat) (z25 : Nat) (z26 : Nat) (z27 : Nat) (z28 : Nat) (z29 : Nat) (z30 : Nat) (z31 : Nat) (z32 : Nat) (z33 : Nat) (z36 : Nat) (z37 : Nat) (z38 : Nat) (z39 : Nat) (z40 : Nat) (z41 : Nat) (z42 : Nat) (z43 : Nat) (z44 : Nat) (z45 : Nat) (z46 : Nat) (z47 : Nat) (z48 : Nat) (z55 : Nat) (z56 : Nat) (z59 : Nat) (z60 : Nat) (z61 : Nat) (n0 : Int32) (n1 : Int32) (n3 : Int32) (n4 : Int32) (n5 : Int32) (n6 : Int32) (n7 : Int64) (n8 : Int32) (n9 : Int32) (n20 : Int32) (n21 : Int32) (n34 : Int32) (n35 : Int64) (n49 : Int32) (n50 : Int32) (n51 : Int32) (n52 : Int32) (n53 : Int32) (n54 : Int32) (n57 : Int32) (n58 : Int32) (n62 : Int32) (n63 : Int64) (ab : Nat → Int32) (bh : Nat → Int32) (T : Nat) (set : Int32) (h0 : ab 0 = nI T) (hT : T ≤ 8) (hC : kC γ p9 s m [.ref z, .int set].toArray c cX12_allBehind 4 RX12 A) (hr : meth.sig.returnType = (some .int)) (hlocks : meth.locks = false) : ∀ (k : Nat) (i : Nat), T - i < k → (i ≤ T) → ∀ (H : Heap) (locs : List Loc), kW γ A [(z, .inr (11, [.int n0, .int n1, .ref z2, .int n3, .int n4, .int n5, .int n6, .long n7, .int n8, .int n9, .ref z10, .ref z11, .ref z12, .ref z13, .ref z14, .ref z15, .ref z16, .ref z17, .ref z18, .ref z19, .int n20, .int n21, .ref z22, .ref z23, .ref z24, .ref z25, .ref z26, .ref z27, .ref z28, .ref z29, .ref z30, .ref z31, .ref z32, .ref z33, .int n34, .long n35, .ref z36, .ref z37, .ref z38, .ref z39, .ref z40, .ref z41, .ref z42, .ref z43, .ref z44, .ref z45, .ref z46, .ref z47, .ref z48, .int n49, .int n50, .int n51, .int n52, .int n53, .int n54, .ref z55, .ref z56, .int n57, .int n58, .ref z59, .ref z60, .ref z61, .int n62, .long n63])), (z10, .inl (γ.2.1 0, 10, .inl ab)), (z15, .inl (γ.2.1 0, 16, .inl bh))] s H locs → ∀ ls : Array Slot, lv_has ls 4 [(3, .int (nI i)), (2, .int (aF bh set i)), (0, .ref z), (1, .int set)] → W p9 l e ({ frames := 0, cells := 0, slots := 0, locals := 0 } : Room) s m [.ref z, .int set].toArray below meth c H locs 0 0 (MQ below (kQ γ A (fun r w1 => r = some (.int (aF bh set T)) ∧ w1 = [(z, .inr (11, [.int n0, .int n1, .ref z2, .int n3, .int n4, .int n5, .int n6, .long n7, .int n8, .int n9, .ref z10, .ref z11, .ref z12, .ref z13, .ref z14, .ref z15, .ref z16, .ref z17, .ref z18, .ref z19, .int n20, .int n21, .ref z22, .ref z23, .ref z24, .ref z25, .ref z26, .ref z27, .ref z28, .ref z29, .ref z30, .ref z31, .ref z32, .ref z33, .int n34, .long n35, .ref z36, .ref z37, .ref z38, .ref z39, .ref z40, .ref z41, .ref z42, .ref z43, .ref z44, .ref z45, .ref z46, .ref z47, .ref z48, .int n49, .int n50, .int n51, .int n52, .int n53, .int n54, .ref z55, .ref z56, .int n57, .int n58, .ref z59, .ref z60, .ref z61, .int n62, .long n63])), (z10, .inl (γ.2.1 0, 10, .inl ab)), (z15, .inl (γ.2.1 0, 16, .inl bh))])) [.ref z, .int set].toArray s 0 0 A) (F0 m 4 ls []) := by
  have hx := hC.1
  have hb := hC.2.1
  intro k
  induction k with
  | zero => intro i hk; exact absurd hk (Nat.not_lt_zero _)
  | succ k ih =>
    intro i hk hi H locs hw ls hl
    refine lv_iload_n hx hb dX12_allBehind_4 rfl (lv_at hl 0 rfl) ?_
    refine lv_aload_n hx hb dX12_allBehind_5 rfl (lv_at hl 2 rfl) ?_
    refine fg_RX12_13 hC hw 0 rfl rfl dX12_allBehind_6 ?_
    refine lv_iconst (v := 0) hx hb dX12_allBehind_9 (by decide) ?_
    refine k_iald hC hw 1 rfl (k_in0 (by decide)) dX12_allBehind_10 ?_
    refine lv_topi (fun x_63 ex_63 => ?_)
    obtain rfl : x_63 = (nI T) := (show x_63 = ab 0 from ex_63).trans h0
    refine lv_icmp_ge (tgt := 42) hx hb dX12_allBehind_11 (by decide) (fun c1 => ?_) (fun c1 => ?_)
    · have hi9 : i = T := by have h9 := (nI_leI (a := T) (b := i) (by omega) (by omega)).mp c1; omega
      rw [hi9] at hl
      refine lv_iload_n hx hb dX12_allBehind_42 rfl (lv_at hl 1 rfl) ?_
      exact k_iret hC hr hlocks hw [0, 1, 2] rfl rfl ⟨rfl, rfl⟩ (by decide) (by decide) dX12_allBehind_43
    · have hi9 : i < T := by rcases Nat.lt_or_ge i T with h9 | h9; exact h9; exact absurd (nI_le h9 (by omega)) c1
      refine lv_iload_n hx hb dX12_allBehind_14 rfl (lv_at hl 1 rfl) ?_
      refine lv_iload_n hx hb dX12_allBehind_15 rfl (lv_at hl 3 rfl) ?_
      refine lv_iload_n hx hb dX12_allBehind_16 rfl (lv_at hl 0 rfl) ?_
      refine lv_ishr hx hb dX12_allBehind_17 ?_
      refine lv_iconst (v := 1) hx hb dX12_allBehind_18 (by decide) ?_
      refine lv_iand hx hb dX12_allBehind_19 ?_
      refine lv_iconst (v := 1) hx hb dX12_allBehind_20 (by decide) ?_
      refine lv_icmp_ne (tgt := 33) hx hb dX12_allBehind_21 (by decide) (fun c2 => ?_) (fun c2 => ?_)
      · refine lv_iconst (v := 0) hx hb dX12_allBehind_33 (by decide) ?_
        refine lv_ior hx hb dX12_allBehind_34 ?_
        refine lv_topi (fun x_64 ex_64 => ?_)
        obtain rfl : x_64 = (aF bh set (i + 1)) := ex_64.trans ((Int32.or_zero ..).trans (aF_p (isIn_0 c2)))
        refine lv_istore_n (lv' := [(2, .int (aF bh set (i + 1))), (3, .int (nI i)), (0, .ref z), (1, .int set)]) hx hb dX12_allBehind_35 rfl hl (by decide) rfl (fun ls hl => ?_)
        refine lv_iinc (v := (nI (i + 1))) (lv' := [(3, .int (nI (i + 1))), (2, .int (aF bh set (i + 1))), (0, .ref z), (1, .int set)]) hx hb dX12_allBehind_36 hl (k := 1) rfl (nI_1 i) (by decide) rfl (fun ls hl => ?_)
        refine lv_goto (tgt := 4) hx hb dX12_allBehind_39 (by decide) ?_
        exact ih (i + 1) (by omega) (by omega) _ _ (kW.sub hw [0, 1, 2] rfl rfl) _ (lv_sub hl [0, 1, 2, 3] rfl)
      · refine lv_aload_n hx hb dX12_allBehind_24 rfl (lv_at hl 2 rfl) ?_
        refine fg_RX12_29 hC hw 0 rfl rfl dX12_allBehind_25 ?_
        refine lv_iload_n hx hb dX12_allBehind_28 rfl (lv_at hl 0 rfl) ?_
        refine k_iald hC hw 2 rfl (vp_in_nI (by omega) (by decide)) dX12_allBehind_29 ?_
        refine lv_topi (fun x_65 ex_65 => ?_)
        obtain rfl : x_65 = bh i := (show x_65 = bh (nI i : Int32).toNatClampNeg from ex_65).trans (by rw [nI_clamp (by omega)])
        refine lv_goto (tgt := 34) hx hb dX12_allBehind_30 (by decide) ?_
        refine lv_ior hx hb dX12_allBehind_34 ?_
        refine lv_topi (fun x_66 ex_66 => ?_)
        obtain rfl : x_66 = (aF bh set (i + 1)) := ex_66.trans (aF_n (isIn_1 c2))
        refine lv_istore_n (lv' := [(2, .int (aF bh set (i + 1))), (3, .int (nI i)), (0, .ref z), (1, .int set)]) hx hb dX12_allBehind_35 rfl hl (by decide) rfl (fun ls hl => ?_)
        refine lv_iinc (v := (nI (i + 1))) (lv' := [(3, .int (nI (i + 1))), (2, .int (aF bh set (i + 1))), (0, .ref z), (1, .int set)]) hx hb dX12_allBehind_36 hl (k := 1) rfl (nI_1 i) (by decide) rfl (fun ls hl => ?_)
        refine lv_goto (tgt := 4) hx hb dX12_allBehind_39 (by decide) ?_
        exact ih (i + 1) (by omega) (by omega) _ _ (kW.sub hw [0, 1, 2] rfl rfl) _ (lv_sub hl [0, 1, 2, 3] rfl)

set_option maxHeartbeats 4000000 in
set_option maxRecDepth 100000 in
theorem c_X12_allBehind (γ : kΓ) (l : Launch) (z : Nat) (z2 : Nat) (z10 : Nat) (z11 : Nat) (z12 : Nat) (z13 : Nat) (z14 : Nat) (z15 : Nat) (z16 : Nat) (z17 : Nat) (z18 : Nat) (z19 : Nat) (z22 : Nat) (z23 : Nat) (z24 : Nat) (z25 : Nat) (z26 : Nat) (z27 : Nat) (z28 : Nat) (z29 : Nat) (z30 : Nat) (z31 : Nat) (z32 : Nat) (z33 : Nat) (z36 : Nat) (z37 : Nat) (z38 : Nat) (z39 : Nat) (z40 : Nat) (z41 : Nat) (z42 : Nat) (z43 : Nat) (z44 : Nat) (z45 : Nat) (z46 : Nat) (z47 : Nat) (z48 : Nat) (z55 : Nat) (z56 : Nat) (z59 : Nat) (z60 : Nat) (z61 : Nat) (n0 : Int32) (n1 : Int32) (n3 : Int32) (n4 : Int32) (n5 : Int32) (n6 : Int32) (n7 : Int64) (n8 : Int32) (n9 : Int32) (n20 : Int32) (n21 : Int32) (n34 : Int32) (n35 : Int64) (n49 : Int32) (n50 : Int32) (n51 : Int32) (n52 : Int32) (n53 : Int32) (n54 : Int32) (n57 : Int32) (n58 : Int32) (n62 : Int32) (n63 : Int64) (ab : Nat → Int32) (bh : Nat → Int32) (T : Nat) (set : Int32) (h0 : ab 0 = nI T) (hT : T ≤ 8) : kM γ l yX12_allBehind cX12_allBehind 4 ((some .int)) ({ frames := 0, cells := 0, slots := 0, locals := 0 } : Room) [.ref z, .int set] [(z, .inr (11, [.int n0, .int n1, .ref z2, .int n3, .int n4, .int n5, .int n6, .long n7, .int n8, .int n9, .ref z10, .ref z11, .ref z12, .ref z13, .ref z14, .ref z15, .ref z16, .ref z17, .ref z18, .ref z19, .int n20, .int n21, .ref z22, .ref z23, .ref z24, .ref z25, .ref z26, .ref z27, .ref z28, .ref z29, .ref z30, .ref z31, .ref z32, .ref z33, .int n34, .long n35, .ref z36, .ref z37, .ref z38, .ref z39, .ref z40, .ref z41, .ref z42, .ref z43, .ref z44, .ref z45, .ref z46, .ref z47, .ref z48, .int n49, .int n50, .int n51, .int n52, .int n53, .int n54, .ref z55, .ref z56, .int n57, .int n58, .ref z59, .ref z60, .ref z61, .int n62, .long n63])), (z10, .inl (γ.2.1 0, 10, .inl ab)), (z15, .inl (γ.2.1 0, 16, .inl bh))] (fun r w1 => r = some (.int (aF bh set T)) ∧ w1 = [(z, .inr (11, [.int n0, .int n1, .ref z2, .int n3, .int n4, .int n5, .int n6, .long n7, .int n8, .int n9, .ref z10, .ref z11, .ref z12, .ref z13, .ref z14, .ref z15, .ref z16, .ref z17, .ref z18, .ref z19, .int n20, .int n21, .ref z22, .ref z23, .ref z24, .ref z25, .ref z26, .ref z27, .ref z28, .ref z29, .ref z30, .ref z31, .ref z32, .ref z33, .int n34, .long n35, .ref z36, .ref z37, .ref z38, .ref z39, .ref z40, .ref z41, .ref z42, .ref z43, .ref z44, .ref z45, .ref z46, .ref z47, .ref z48, .int n49, .int n50, .int n51, .int n52, .int n53, .int n54, .ref z55, .ref z56, .int n57, .int n58, .ref z59, .ref z60, .ref z61, .int n62, .long n63])), (z10, .inl (γ.2.1 0, 10, .inl ab)), (z15, .inl (γ.2.1 0, 16, .inl bh))]) := by
  refine k_ofW (by decide) (Nat.le_of_ble_eq_true rfl) ?_
  intro p9 e s m below meth c A ls hC hr hlocks hname hw hl
  have hx := hC.1
  have hb := hC.2.1
  have hl : lv_has ls 4 [(0, .ref z), (1, .int set)] := hl
  refine lv_iconst (v := 0) hx hb dX12_allBehind_0 (by decide) ?_
  refine lv_istore_n (lv' := [(2, .int 0), (0, .ref z), (1, .int set)]) hx hb dX12_allBehind_1 rfl hl (by decide) rfl (fun ls hl => ?_)
  refine lv_iconst (v := 0) hx hb dX12_allBehind_2 (by decide) ?_
  refine lv_istore_n (lv' := [(3, .int 0), (2, .int 0), (0, .ref z), (1, .int set)]) hx hb dX12_allBehind_3 rfl hl (by decide) rfl (fun ls hl => ?_)
  exact lp_X12_allBehind z z2 z10 z11 z12 z13 z14 z15 z16 z17 z18 z19 z22 z23 z24 z25 z26 z27 z28 z29 z30 z31 z32 z33 z36 z37 z38 z39 z40 z41 z42 z43 z44 z45 z46 z47 z48 z55 z56 z59 z60 z61 n0 n1 n3 n4 n5 n6 n7 n8 n9 n20 n21 n34 n35 n49 n50 n51 n52 n53 n54 n57 n58 n62 n63 ab bh T set h0 hT hC hr hlocks (T + 1) 0 (by omega) (Nat.zero_le T) _ _ hw _ (lv_sub hl [0, 1, 2, 3] rfl)


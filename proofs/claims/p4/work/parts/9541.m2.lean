abbrev mAS := (Nat → Int32) × (Nat → Int64) × (Nat → Int64) × (Nat → Int32) × (Nat → Int32) × (Nat → Int32) × (Nat → Int32) × (Nat → Int32) × (Nat → Int32) × (Nat → Int32) × (Nat → Int32) × (Nat → Int32)
def mWa (γ : kΓ) (z10 : Nat) (z11 : Nat) (z12 : Nat) (z13 : Nat) (z14 : Nat) (z15 : Nat) (z16 : Nat) (z17 : Nat) (z18 : Nat) (z19 : Nat) (z22 : Nat) (z23 : Nat) (a : mAS) : va_W := [(z10, .inl (γ.2.1 0, 10, .inl (a.1))), (z11, .inl (γ.2.1 1, 16, .inr (.inl (a.2.1)))), (z12, .inl (γ.2.1 1, 10, .inr (.inl (a.2.2.1)))), (z13, .inl (γ.2.1 0, 16, .inl (a.2.2.2.1))), (z14, .inl (γ.2.1 0, 16, .inl (a.2.2.2.2.1))), (z15, .inl (γ.2.1 0, 16, .inl (a.2.2.2.2.2.1))), (z16, .inl (γ.2.1 0, 10, .inl (a.2.2.2.2.2.2.1))), (z17, .inl (γ.2.1 0, 4, .inl (a.2.2.2.2.2.2.2.1))), (z18, .inl (γ.2.1 0, 4, .inl (a.2.2.2.2.2.2.2.2.1))), (z19, .inl (γ.2.1 0, 2000, .inl (a.2.2.2.2.2.2.2.2.2.1))), (z22, .inl (γ.2.1 0, 7, .inl (a.2.2.2.2.2.2.2.2.2.2.1))), (z23, .inl (γ.2.1 3, 7, .inl (a.2.2.2.2.2.2.2.2.2.2.2)))]
def mOK (a : mAS) : Prop := (0 ≤ (a.1 5).toInt ∧ (a.1 5).toInt ≤ 8) ∧ (0 ≤ (a.1 6).toInt ∧ (a.1 6).toInt ≤ 5)
theorem cl_nI {x : Int32} (h : 0 ≤ x.toInt) : x = nI x.toNatClampNeg := by
  apply Int32.toInt_inj.mp
  have h1 : x.toInt < 2 ^ 31 := by have := q_rng x; unfold i32hi at this; omega
  have h2 : x.toNatClampNeg = x.toInt.toNat := rfl
  rw [h2, nI_toInt (by omega)]
  omega
theorem cl_le {x : Int32} {k : Nat} (h : x.toInt ≤ k) : x.toNatClampNeg ≤ k := by
  have h2 : x.toNatClampNeg = x.toInt.toNat := rfl
  omega
theorem mI_sub {b i : Nat} : nI (b + i) - nI b = nI i := by
  rw [← nI_add, Int32.add_comm, Int32.add_sub_cancel]
theorem mI_sub0 {i : Nat} : nI (0 + i) - 0 = nI i := by
  rw [Nat.zero_add]; exact Int32.sub_zero _
theorem in16 {x : Int32} (h0 : 0 ≤ x.toInt) (h8 : x.toInt ≤ 8) (hne : ¬ 8 + x = 16) : vp_in (8 + x) 16 := by
  have e : (8 + x).toInt = 8 + x.toInt := by
    rw [q_addT, show (8 : Int32).toInt = 8 from by decide, q_bmod (by unfold i32lo; omega) (by unfold i32hi; omega)]
  refine k_in0 ⟨by omega, ?_⟩
  have h9 : ¬ (8 + x).toInt = 16 := fun h => hne (Int32.toInt_inj.mp (h.trans (by decide)))
  omega
theorem in10 {x : Int32} (h0 : 0 ≤ x.toInt) (h5 : x.toInt ≤ 5) (hne : ¬ 5 + x = 10) : vp_in (5 + x) 10 := by
  have e : (5 + x).toInt = 5 + x.toInt := by
    rw [q_addT, show (5 : Int32).toInt = 5 from by decide, q_bmod (by unfold i32lo; omega) (by unfold i32hi; omega)]
  refine k_in0 ⟨by omega, ?_⟩
  have h9 : ¬ (5 + x).toInt = 10 := fun h => hne (Int32.toInt_inj.mp (h.trans (by decide)))
  omega
theorem dX12_thoughtNamed_0 : decode cX12_thoughtNamed 0 = .ok (.bipush 8, 2) := by decide +kernel
theorem dX12_thoughtNamed_2 : decode cX12_thoughtNamed 2 = .ok (.iload_n 1, 1) := by decide +kernel
theorem dX12_thoughtNamed_3 : decode cX12_thoughtNamed 3 = .ok (.imul, 1) := by decide +kernel
theorem dX12_thoughtNamed_4 : decode cX12_thoughtNamed 4 = .ok (.istore_n 2, 1) := by decide +kernel
theorem dX12_thoughtNamed_5 : decode cX12_thoughtNamed 5 = .ok (.iload_n 2, 1) := by decide +kernel
theorem dX12_thoughtNamed_6 : decode cX12_thoughtNamed 6 = .ok (.bipush 8, 2) := by decide +kernel
theorem dX12_thoughtNamed_8 : decode cX12_thoughtNamed 8 = .ok (.iload_n 1, 1) := by decide +kernel
theorem dX12_thoughtNamed_9 : decode cX12_thoughtNamed 9 = .ok (.imul, 1) := by decide +kernel
theorem dX12_thoughtNamed_10 : decode cX12_thoughtNamed 10 = .ok (.aload_n 0, 1) := by decide +kernel
theorem dX12_thoughtNamed_11 : decode cX12_thoughtNamed 11 = .ok (.getfield 13, 3) := by decide +kernel
theorem dX12_thoughtNamed_14 : decode cX12_thoughtNamed 14 = .ok (.iconst 5, 1) := by decide +kernel
theorem dX12_thoughtNamed_15 : decode cX12_thoughtNamed 15 = .ok (.iload_n 1, 1) := by decide +kernel
theorem dX12_thoughtNamed_16 : decode cX12_thoughtNamed 16 = .ok (.imul, 1) := by decide +kernel
theorem dX12_thoughtNamed_17 : decode cX12_thoughtNamed 17 = .ok (.iconst 0, 1) := by decide +kernel
theorem dX12_thoughtNamed_18 : decode cX12_thoughtNamed 18 = .ok (.iadd, 1) := by decide +kernel
theorem dX12_thoughtNamed_19 : decode cX12_thoughtNamed 19 = .ok (.iaload, 1) := by decide +kernel
theorem dX12_thoughtNamed_20 : decode cX12_thoughtNamed 20 = .ok (.iadd, 1) := by decide +kernel
theorem dX12_thoughtNamed_21 : decode cX12_thoughtNamed 21 = .ok (.if_icmp .ge 30, 3) := by decide +kernel
theorem dX12_thoughtNamed_24 : decode cX12_thoughtNamed 24 = .ok (.aload_n 0, 1) := by decide +kernel
theorem dX12_thoughtNamed_25 : decode cX12_thoughtNamed 25 = .ok (.getfield 16, 3) := by decide +kernel
theorem dX12_thoughtNamed_28 : decode cX12_thoughtNamed 28 = .ok (.iload_n 2, 1) := by decide +kernel
theorem dX12_thoughtNamed_29 : decode cX12_thoughtNamed 29 = .ok (.laload, 1) := by decide +kernel
theorem dX12_thoughtNamed_30 : decode cX12_thoughtNamed 30 = .ok (.aload_n 0, 1) := by decide +kernel
theorem dX12_thoughtNamed_31 : decode cX12_thoughtNamed 31 = .ok (.getfield 160, 3) := by decide +kernel
theorem dX12_thoughtNamed_34 : decode cX12_thoughtNamed 34 = .ok (.lcmp, 1) := by decide +kernel
theorem dX12_thoughtNamed_35 : decode cX12_thoughtNamed 35 = .ok (.ifCond .ne 10, 3) := by decide +kernel
theorem dX12_thoughtNamed_38 : decode cX12_thoughtNamed 38 = .ok (.iload_n 2, 1) := by decide +kernel
theorem dX12_thoughtNamed_39 : decode cX12_thoughtNamed 39 = .ok (.bipush 8, 2) := by decide +kernel
theorem dX12_thoughtNamed_41 : decode cX12_thoughtNamed 41 = .ok (.iload_n 1, 1) := by decide +kernel
theorem dX12_thoughtNamed_42 : decode cX12_thoughtNamed 42 = .ok (.imul, 1) := by decide +kernel
theorem dX12_thoughtNamed_43 : decode cX12_thoughtNamed 43 = .ok (.isub, 1) := by decide +kernel
theorem dX12_thoughtNamed_44 : decode cX12_thoughtNamed 44 = .ok (.ireturn, 1) := by decide +kernel
theorem dX12_thoughtNamed_45 : decode cX12_thoughtNamed 45 = .ok (.iinc 2 1, 3) := by decide +kernel
theorem dX12_thoughtNamed_48 : decode cX12_thoughtNamed 48 = .ok (.goto (-43), 3) := by decide +kernel
theorem dX12_thoughtNamed_51 : decode cX12_thoughtNamed 51 = .ok (.iconst (-1), 1) := by decide +kernel
theorem dX12_thoughtNamed_52 : decode cX12_thoughtNamed 52 = .ok (.ireturn, 1) := by decide +kernel
theorem dX12_tenantNamed_0 : decode cX12_tenantNamed 0 = .ok (.iconst 5, 1) := by decide +kernel
theorem dX12_tenantNamed_1 : decode cX12_tenantNamed 1 = .ok (.iload_n 1, 1) := by decide +kernel
theorem dX12_tenantNamed_2 : decode cX12_tenantNamed 2 = .ok (.imul, 1) := by decide +kernel
theorem dX12_tenantNamed_3 : decode cX12_tenantNamed 3 = .ok (.istore_n 2, 1) := by decide +kernel
theorem dX12_tenantNamed_4 : decode cX12_tenantNamed 4 = .ok (.iload_n 2, 1) := by decide +kernel
theorem dX12_tenantNamed_5 : decode cX12_tenantNamed 5 = .ok (.iconst 5, 1) := by decide +kernel
theorem dX12_tenantNamed_6 : decode cX12_tenantNamed 6 = .ok (.iload_n 1, 1) := by decide +kernel
theorem dX12_tenantNamed_7 : decode cX12_tenantNamed 7 = .ok (.imul, 1) := by decide +kernel
theorem dX12_tenantNamed_8 : decode cX12_tenantNamed 8 = .ok (.aload_n 0, 1) := by decide +kernel
theorem dX12_tenantNamed_9 : decode cX12_tenantNamed 9 = .ok (.getfield 13, 3) := by decide +kernel
theorem dX12_tenantNamed_12 : decode cX12_tenantNamed 12 = .ok (.iconst 5, 1) := by decide +kernel
theorem dX12_tenantNamed_13 : decode cX12_tenantNamed 13 = .ok (.iload_n 1, 1) := by decide +kernel
theorem dX12_tenantNamed_14 : decode cX12_tenantNamed 14 = .ok (.imul, 1) := by decide +kernel
theorem dX12_tenantNamed_15 : decode cX12_tenantNamed 15 = .ok (.iconst 1, 1) := by decide +kernel
theorem dX12_tenantNamed_16 : decode cX12_tenantNamed 16 = .ok (.iadd, 1) := by decide +kernel
theorem dX12_tenantNamed_17 : decode cX12_tenantNamed 17 = .ok (.iaload, 1) := by decide +kernel
theorem dX12_tenantNamed_18 : decode cX12_tenantNamed 18 = .ok (.iadd, 1) := by decide +kernel
theorem dX12_tenantNamed_19 : decode cX12_tenantNamed 19 = .ok (.if_icmp .ge 29, 3) := by decide +kernel
theorem dX12_tenantNamed_22 : decode cX12_tenantNamed 22 = .ok (.aload_n 0, 1) := by decide +kernel
theorem dX12_tenantNamed_23 : decode cX12_tenantNamed 23 = .ok (.getfield 20, 3) := by decide +kernel
theorem dX12_tenantNamed_26 : decode cX12_tenantNamed 26 = .ok (.iload_n 2, 1) := by decide +kernel
theorem dX12_tenantNamed_27 : decode cX12_tenantNamed 27 = .ok (.laload, 1) := by decide +kernel
theorem dX12_tenantNamed_28 : decode cX12_tenantNamed 28 = .ok (.aload_n 0, 1) := by decide +kernel
theorem dX12_tenantNamed_29 : decode cX12_tenantNamed 29 = .ok (.getfield 160, 3) := by decide +kernel
theorem dX12_tenantNamed_32 : decode cX12_tenantNamed 32 = .ok (.lcmp, 1) := by decide +kernel
theorem dX12_tenantNamed_33 : decode cX12_tenantNamed 33 = .ok (.ifCond .ne 9, 3) := by decide +kernel
theorem dX12_tenantNamed_36 : decode cX12_tenantNamed 36 = .ok (.iload_n 2, 1) := by decide +kernel
theorem dX12_tenantNamed_37 : decode cX12_tenantNamed 37 = .ok (.iconst 5, 1) := by decide +kernel
theorem dX12_tenantNamed_38 : decode cX12_tenantNamed 38 = .ok (.iload_n 1, 1) := by decide +kernel
theorem dX12_tenantNamed_39 : decode cX12_tenantNamed 39 = .ok (.imul, 1) := by decide +kernel
theorem dX12_tenantNamed_40 : decode cX12_tenantNamed 40 = .ok (.isub, 1) := by decide +kernel
theorem dX12_tenantNamed_41 : decode cX12_tenantNamed 41 = .ok (.ireturn, 1) := by decide +kernel
theorem dX12_tenantNamed_42 : decode cX12_tenantNamed 42 = .ok (.iinc 2 1, 3) := by decide +kernel
theorem dX12_tenantNamed_45 : decode cX12_tenantNamed 45 = .ok (.goto (-41), 3) := by decide +kernel
theorem dX12_tenantNamed_48 : decode cX12_tenantNamed 48 = .ok (.iconst (-1), 1) := by decide +kernel
theorem dX12_tenantNamed_49 : decode cX12_tenantNamed 49 = .ok (.ireturn, 1) := by decide +kernel
theorem dX12_needsNew_0 : decode cX12_needsNew 0 = .ok (.aload_n 0, 1) := by decide +kernel
theorem dX12_needsNew_1 : decode cX12_needsNew 1 = .ok (.invokevirtual 273, 3) := by decide +kernel
theorem dX12_needsNew_4 : decode cX12_needsNew 4 = .ok (.ifCond .eq 9, 3) := by decide +kernel
theorem dX12_needsNew_7 : decode cX12_needsNew 7 = .ok (.aload_n 0, 1) := by decide +kernel
theorem dX12_needsNew_8 : decode cX12_needsNew 8 = .ok (.iconst 1, 1) := by decide +kernel
theorem dX12_needsNew_9 : decode cX12_needsNew 9 = .ok (.invokevirtual 206, 3) := by decide +kernel
theorem dX12_needsNew_12 : decode cX12_needsNew 12 = .ok (.ireturn, 1) := by decide +kernel
theorem dX12_needsNew_13 : decode cX12_needsNew 13 = .ok (.aload_n 0, 1) := by decide +kernel
theorem dX12_needsNew_14 : decode cX12_needsNew 14 = .ok (.iconst 1, 1) := by decide +kernel
theorem dX12_needsNew_15 : decode cX12_needsNew 15 = .ok (.invokevirtual 277, 3) := by decide +kernel
theorem dX12_needsNew_18 : decode cX12_needsNew 18 = .ok (.ifCond .ge 11, 3) := by decide +kernel
theorem dX12_needsNew_21 : decode cX12_needsNew 21 = .ok (.aload_n 0, 1) := by decide +kernel
theorem dX12_needsNew_22 : decode cX12_needsNew 22 = .ok (.iconst 1, 1) := by decide +kernel
theorem dX12_needsNew_23 : decode cX12_needsNew 23 = .ok (.invokevirtual 280, 3) := by decide +kernel
theorem dX12_needsNew_26 : decode cX12_needsNew 26 = .ok (.ifCond .lt 9, 3) := by decide +kernel
theorem dX12_needsNew_29 : decode cX12_needsNew 29 = .ok (.aload_n 0, 1) := by decide +kernel
theorem dX12_needsNew_30 : decode cX12_needsNew 30 = .ok (.iconst 3, 1) := by decide +kernel
theorem dX12_needsNew_31 : decode cX12_needsNew 31 = .ok (.invokevirtual 206, 3) := by decide +kernel
theorem dX12_needsNew_34 : decode cX12_needsNew 34 = .ok (.ireturn, 1) := by decide +kernel
theorem dX12_needsNew_35 : decode cX12_needsNew 35 = .ok (.aload_n 0, 1) := by decide +kernel
theorem dX12_needsNew_36 : decode cX12_needsNew 36 = .ok (.aload_n 0, 1) := by decide +kernel
theorem dX12_needsNew_37 : decode cX12_needsNew 37 = .ok (.getfield 160, 3) := by decide +kernel
theorem dX12_needsNew_40 : decode cX12_needsNew 40 = .ok (.putfield 283, 3) := by decide +kernel
theorem dX12_needsNew_43 : decode cX12_needsNew 43 = .ok (.aload_n 0, 1) := by decide +kernel
theorem dX12_needsNew_44 : decode cX12_needsNew 44 = .ok (.invokevirtual 212, 3) := by decide +kernel
theorem dX12_needsNew_47 : decode cX12_needsNew 47 = .ok (.iconst 1, 1) := by decide +kernel
theorem dX12_needsNew_48 : decode cX12_needsNew 48 = .ok (.ireturn, 1) := by decide +kernel
theorem dX12_needsThought_0 : decode cX12_needsThought 0 = .ok (.aload_n 0, 1) := by decide +kernel
theorem dX12_needsThought_1 : decode cX12_needsThought 1 = .ok (.invokevirtual 273, 3) := by decide +kernel
theorem dX12_needsThought_4 : decode cX12_needsThought 4 = .ok (.ifCond .eq 9, 3) := by decide +kernel
theorem dX12_needsThought_7 : decode cX12_needsThought 7 = .ok (.aload_n 0, 1) := by decide +kernel
theorem dX12_needsThought_8 : decode cX12_needsThought 8 = .ok (.iconst 1, 1) := by decide +kernel
theorem dX12_needsThought_9 : decode cX12_needsThought 9 = .ok (.invokevirtual 206, 3) := by decide +kernel
theorem dX12_needsThought_12 : decode cX12_needsThought 12 = .ok (.ireturn, 1) := by decide +kernel
theorem dX12_needsThought_13 : decode cX12_needsThought 13 = .ok (.aload_n 0, 1) := by decide +kernel
theorem dX12_needsThought_14 : decode cX12_needsThought 14 = .ok (.aload_n 0, 1) := by decide +kernel
theorem dX12_needsThought_15 : decode cX12_needsThought 15 = .ok (.iload_n 1, 1) := by decide +kernel
theorem dX12_needsThought_16 : decode cX12_needsThought 16 = .ok (.invokevirtual 277, 3) := by decide +kernel
theorem dX12_needsThought_19 : decode cX12_needsThought 19 = .ok (.putfield 266, 3) := by decide +kernel
theorem dX12_needsThought_22 : decode cX12_needsThought 22 = .ok (.aload_n 0, 1) := by decide +kernel
theorem dX12_needsThought_23 : decode cX12_needsThought 23 = .ok (.getfield 266, 3) := by decide +kernel
theorem dX12_needsThought_26 : decode cX12_needsThought 26 = .ok (.ifCond .ge 11, 3) := by decide +kernel
theorem dX12_needsThought_29 : decode cX12_needsThought 29 = .ok (.aload_n 0, 1) := by decide +kernel
theorem dX12_needsThought_30 : decode cX12_needsThought 30 = .ok (.iconst 2, 1) := by decide +kernel
theorem dX12_needsThought_31 : decode cX12_needsThought 31 = .ok (.invokevirtual 206, 3) := by decide +kernel
theorem dX12_needsThought_34 : decode cX12_needsThought 34 = .ok (.ifCond .eq 7, 3) := by decide +kernel
theorem dX12_needsThought_37 : decode cX12_needsThought 37 = .ok (.iconst 1, 1) := by decide +kernel
theorem dX12_needsThought_38 : decode cX12_needsThought 38 = .ok (.goto 4, 3) := by decide +kernel
theorem dX12_needsThought_41 : decode cX12_needsThought 41 = .ok (.iconst 0, 1) := by decide +kernel
theorem dX12_needsThought_42 : decode cX12_needsThought 42 = .ok (.ireturn, 1) := by decide +kernel
def F_m_thoughtNamed1 (g : Nat → Int32) (n : Nat) (rs : mRS) (a : mAS) : Int32 := pl (fun i => (a.2.1) (8 + i)) (mw g n rs.2.1) (((a.1) 5).toNatClampNeg) 0
set_option maxHeartbeats 4000000 in
set_option maxRecDepth 100000 in
theorem lp_m_thoughtNamed1 {γ : kΓ} {l : Launch} {p : Program} {e : Env} {s : State} {m : MethodId} {below : List Frame} {meth : Method} {c : Code} {A : Nat → Prop} (z : Nat) (z2 : Nat) (z10 : Nat) (z11 : Nat) (z12 : Nat) (z13 : Nat) (z14 : Nat) (z15 : Nat) (z16 : Nat) (z17 : Nat) (z18 : Nat) (z19 : Nat) (z22 : Nat) (z23 : Nat) (z24 : Nat) (z25 : Nat) (z26 : Nat) (z27 : Nat) (z28 : Nat) (z29 : Nat) (z30 : Nat) (z31 : Nat) (z32 : Nat) (z33 : Nat) (z36 : Nat) (z37 : Nat) (z38 : Nat) (z39 : Nat) (z40 : Nat) (z41 : Nat) (z42 : Nat) (z43 : Nat) (z44 : Nat) (z45 : Nat) (z46 : Nat) (z47 : Nat) (z48 : Nat) (z55 : Nat) (z56 : Nat) (z59 : Nat) (z60 : Nat) (z61 : Nat) (n0 : Int32) (n1 : Int32) (n49 : Int32) (n50 : Int32) (n51 : Int32) (n52 : Int32) (n53 : Int32) (n54 : Int32) (n57 : Int32) (n58 : Int32) (n62 : Int32) (n63 : Int64) (n : Nat) (g : Nat → Int32) (rs : mRS) (a : mAS) (T : Nat) (R9 : Int32) (hT : T ≤ 8) (hab : (a.1) 5 = nI T) (hC : kC γ p s m [.ref z, .int 1].toArray c cX12_thoughtNamed 3 RX12 A) (hr : meth.sig.returnType = some .int) (hlocks : meth.locks = false) : ∀ (d i : Nat), T - i < d → i ≤ T → pl (fun i => (a.2.1) (8 + i)) (mw g n rs.2.1) (T - i) i = R9 → ∀ (H : Heap) (locs : List Loc), kW γ A ((mWz γ z z2 z10 z11 z12 z13 z14 z15 z16 z17 z18 z19 z22 z23 z24 z25 z26 z27 z28 z29 z30 z31 z32 z33 z36 z37 z38 z39 z40 z41 z42 z43 z44 z45 z46 z47 z48 z55 z56 z59 z60 z61 n0 n1 n49 n50 n51 n52 n53 n54 n57 n58 n62 n63 g n rs) ++ (mWa γ z10 z11 z12 z13 z14 z15 z16 z17 z18 z19 z22 z23 a)) s H locs → ∀ ls : Array Slot, lv_has ls 3 [(2, .int (nI (8 + i))), (0, .ref z), (1, .int 1)] → W p l e ({ frames := 0, cells := 0, slots := 0, locals := 0 } : Room) s m [.ref z, .int 1].toArray below meth c H locs 0 0 (MQ below (kQ γ A (fun r w1 => r = some (.int R9) ∧ w1 = ((mWz γ z z2 z10 z11 z12 z13 z14 z15 z16 z17 z18 z19 z22 z23 z24 z25 z26 z27 z28 z29 z30 z31 z32 z33 z36 z37 z38 z39 z40 z41 z42 z43 z44 z45 z46 z47 z48 z55 z56 z59 z60 z61 n0 n1 n49 n50 n51 n52 n53 n54 n57 n58 n62 n63 g n rs) ++ (mWa γ z10 z11 z12 z13 z14 z15 z16 z17 z18 z19 z22 z23 a)))) [.ref z, .int 1].toArray s 0 0 A) (F0 m 5 ls []) := by
  have hx := hC.1
  have hb := hC.2.1
  intro d
  induction d with
  | zero => intro i hd; exact absurd hd (Nat.not_lt_zero _)
  | succ d ih =>
    intro i hd him hR H locs hw ls hl
    refine lv_iload_n hx hb dX12_thoughtNamed_5 rfl (lv_at hl 0 rfl) ?_
    refine lv_bipush (v := 8) hx hb dX12_thoughtNamed_6 (by decide) ?_
    refine lv_iload_n hx hb dX12_thoughtNamed_8 rfl (lv_at hl 2 rfl) ?_
    refine lv_imul hx hb dX12_thoughtNamed_9 ?_
    refine lv_topi (fun x_127 ex_127 => ?_)
    obtain rfl : x_127 = 8 := ex_127.trans (by decide)
    refine lv_aload_n hx hb dX12_thoughtNamed_10 rfl (lv_at hl 1 rfl) ?_
    refine fg_RX12_13 hC hw 0 rfl rfl dX12_thoughtNamed_11 ?_
    refine lv_iconst (v := 5) hx hb dX12_thoughtNamed_14 (by decide) ?_
    refine lv_iload_n hx hb dX12_thoughtNamed_15 rfl (lv_at hl 2 rfl) ?_
    refine lv_imul hx hb dX12_thoughtNamed_16 ?_
    refine lv_topi (fun x_128 ex_128 => ?_)
    obtain rfl : x_128 = 5 := ex_128.trans (by decide)
    refine lv_iconst (v := 0) hx hb dX12_thoughtNamed_17 (by decide) ?_
    refine lv_iadd hx hb dX12_thoughtNamed_18 ?_
    refine lv_topi (fun x_129 ex_129 => ?_)
    obtain rfl : x_129 = 5 := ex_129.trans (by decide)
    refine k_iald hC hw 2 rfl (k_in0 (by decide)) dX12_thoughtNamed_19 ?_
    refine lv_topi (fun x_130 ex_130 => ?_)
    obtain rfl : x_130 = ((a.1) 5) := ex_130
    refine lv_iadd hx hb dX12_thoughtNamed_20 ?_
    refine lv_topi (fun x_131 ex_131 => ?_)
    obtain rfl : x_131 = (nI (8 + T)) := ex_131.trans (by rw [hab]; exact nI_add 8 T)
    refine lv_icmp_ge (tgt := 51) hx hb dX12_thoughtNamed_21 (by decide) (fun c6 => ?_) (fun c6 => ?_)
    · have h6 : ¬ i < T := fun h9 => absurd c6 (nI_ge (a := 8 + i) (b := 8 + T) (by omega) (by omega))
      refine lv_iconst (v := (-1)) hx hb dX12_thoughtNamed_51 (by decide) ?_
      exact k_iret hC hr hlocks hw [0, 1, 2, 3, 4, 5, 6, 7, 8, 9, 10, 11, 12, 13] rfl rfl ⟨by rw [← hR, pl_e h6], rfl⟩ (by decide) (by decide) dX12_thoughtNamed_52
    · have h6 : i < T := by rcases Nat.lt_or_ge i T with h9 | h9; exact h9; exact absurd (nI_le (a := 8 + T) (b := 8 + i) (by omega) (by omega)) c6
      refine lv_aload_n hx hb dX12_thoughtNamed_24 rfl (lv_at hl 1 rfl) ?_
      refine fg_RX12_16 hC hw 0 rfl rfl dX12_thoughtNamed_25 ?_
      refine lv_iload_n hx hb dX12_thoughtNamed_28 rfl (lv_at hl 0 rfl) ?_
      refine k_lald hC hw 3 rfl (vp_in_nI (by omega) (by decide)) dX12_thoughtNamed_29 ?_
      refine lv_topl (fun y ey => ?_)
      obtain rfl : y = (a.2.1) (8 + i) := (show y = (a.2.1) (nI (8 + i) : Int32).toNatClampNeg from ey).trans (by rw [nI_clamp (by omega)])
      refine lv_aload_n hx hb dX12_thoughtNamed_30 rfl (lv_at hl 1 rfl) ?_
      refine fg_RX12_160 hC hw 0 rfl rfl dX12_thoughtNamed_31 ?_
      refine W.lcmp hx hb dX12_thoughtNamed_34 ?_
      refine lv_if_ne (tgt := 45) hx hb dX12_thoughtNamed_35 (by decide) (fun hne => ?_) (fun heq => ?_)
      · have hx9 : ¬ (fun i => (a.2.1) (8 + i)) i = mw g n rs.2.1 := fun e9 => hne (by rw [show (a.2.1) (8 + i) = mw g n rs.2.1 from e9]; exact k_cmp_self9 _)
        refine lv_iinc (v := (nI (8 + (i + 1)))) (lv' := [(2, .int (nI (8 + (i + 1)))), (0, .ref z), (1, .int 1)]) hx hb dX12_thoughtNamed_45 hl (k := 0) rfl (nI_1 _) (by decide) rfl (fun ls hl => ?_)
        refine lv_goto (tgt := 5) hx hb dX12_thoughtNamed_48 (by decide) ?_
        exact ih (i + 1) (by omega) (by omega) ((pl_n h6 hx9).symm.trans hR) _ _ hw _ hl
      · have hx9 : (fun i => (a.2.1) (8 + i)) i = mw g n rs.2.1 := k_cmp0 heq
        refine lv_iload_n hx hb dX12_thoughtNamed_38 rfl (lv_at hl 0 rfl) ?_
        refine lv_bipush (v := 8) hx hb dX12_thoughtNamed_39 (by decide) ?_
        refine lv_iload_n hx hb dX12_thoughtNamed_41 rfl (lv_at hl 2 rfl) ?_
        refine lv_imul hx hb dX12_thoughtNamed_42 ?_
        refine lv_topi (fun x_132 ex_132 => ?_)
        obtain rfl : x_132 = 8 := ex_132.trans (by decide)
        refine lv_isub hx hb dX12_thoughtNamed_43 ?_
        refine lv_topi (fun x_133 ex_133 => ?_)
        obtain rfl : x_133 = (nI i) := ex_133.trans (mI_sub)
        exact k_iret hC hr hlocks hw [0, 1, 2, 3, 4, 5, 6, 7, 8, 9, 10, 11, 12, 13] rfl rfl ⟨by rw [← hR, pl_y h6 hx9], rfl⟩ (by decide) (by decide) dX12_thoughtNamed_44
set_option maxHeartbeats 4000000 in
set_option maxRecDepth 100000 in
theorem c_m_thoughtNamed1 (γ : kΓ) (l : Launch) (z : Nat) (z2 : Nat) (z10 : Nat) (z11 : Nat) (z12 : Nat) (z13 : Nat) (z14 : Nat) (z15 : Nat) (z16 : Nat) (z17 : Nat) (z18 : Nat) (z19 : Nat) (z22 : Nat) (z23 : Nat) (z24 : Nat) (z25 : Nat) (z26 : Nat) (z27 : Nat) (z28 : Nat) (z29 : Nat) (z30 : Nat) (z31 : Nat) (z32 : Nat) (z33 : Nat) (z36 : Nat) (z37 : Nat) (z38 : Nat) (z39 : Nat) (z40 : Nat) (z41 : Nat) (z42 : Nat) (z43 : Nat) (z44 : Nat) (z45 : Nat) (z46 : Nat) (z47 : Nat) (z48 : Nat) (z55 : Nat) (z56 : Nat) (z59 : Nat) (z60 : Nat) (z61 : Nat) (n0 : Int32) (n1 : Int32) (n49 : Int32) (n50 : Int32) (n51 : Int32) (n52 : Int32) (n53 : Int32) (n54 : Int32) (n57 : Int32) (n58 : Int32) (n62 : Int32) (n63 : Int64) (n : Nat) (g : Nat → Int32) (rs : mRS) (a : mAS) (hn : n ≤ 1000) (hT0 : 0 ≤ ((a.1) 5).toInt) (hT8 : ((a.1) 5).toInt ≤ 8) : kM γ l yX12_thoughtNamed cX12_thoughtNamed 3 ((some .int)) ({ frames := 0, cells := 0, slots := 0, locals := 0 } : Room) [.ref z, .int 1] ((mWz γ z z2 z10 z11 z12 z13 z14 z15 z16 z17 z18 z19 z22 z23 z24 z25 z26 z27 z28 z29 z30 z31 z32 z33 z36 z37 z38 z39 z40 z41 z42 z43 z44 z45 z46 z47 z48 z55 z56 z59 z60 z61 n0 n1 n49 n50 n51 n52 n53 n54 n57 n58 n62 n63 g n rs) ++ (mWa γ z10 z11 z12 z13 z14 z15 z16 z17 z18 z19 z22 z23 a)) (fun r w1 => r = some (.int (F_m_thoughtNamed1 g n rs a)) ∧ w1 = ((mWz γ z z2 z10 z11 z12 z13 z14 z15 z16 z17 z18 z19 z22 z23 z24 z25 z26 z27 z28 z29 z30 z31 z32 z33 z36 z37 z38 z39 z40 z41 z42 z43 z44 z45 z46 z47 z48 z55 z56 z59 z60 z61 n0 n1 n49 n50 n51 n52 n53 n54 n57 n58 n62 n63 g n rs) ++ (mWa γ z10 z11 z12 z13 z14 z15 z16 z17 z18 z19 z22 z23 a))) := by
  refine k_ofW (by decide) (Nat.le_of_ble_eq_true rfl) ?_
  intro p9 e s m below meth c A ls hC hr hlocks hname hw hl
  have hx := hC.1
  have hb := hC.2.1
  have hl : lv_has ls 3 [(0, .ref z), (1, .int 1)] := hl
  refine lv_bipush (v := 8) hx hb dX12_thoughtNamed_0 (by decide) ?_
  refine lv_iload_n hx hb dX12_thoughtNamed_2 rfl (lv_at hl 1 rfl) ?_
  refine lv_imul hx hb dX12_thoughtNamed_3 ?_
  refine lv_topi (fun x_134 ex_134 => ?_)
  obtain rfl : x_134 = 8 := ex_134.trans (by decide)
  refine lv_istore_n (lv' := [(2, .int 8), (0, .ref z), (1, .int 1)]) hx hb dX12_thoughtNamed_4 rfl hl (by decide) rfl (fun ls hl => ?_)
  exact lp_m_thoughtNamed1 z z2 z10 z11 z12 z13 z14 z15 z16 z17 z18 z19 z22 z23 z24 z25 z26 z27 z28 z29 z30 z31 z32 z33 z36 z37 z38 z39 z40 z41 z42 z43 z44 z45 z46 z47 z48 z55 z56 z59 z60 z61 n0 n1 n49 n50 n51 n52 n53 n54 n57 n58 n62 n63 n g rs a (((a.1) 5).toNatClampNeg) _ (cl_le hT8) (cl_nI hT0) hC hr hlocks ((((a.1) 5).toNatClampNeg) + 1) 0 (by omega) (Nat.zero_le _) rfl _ _ hw _ hl

def F_m_tenantNamed1 (g : Nat → Int32) (n : Nat) (rs : mRS) (a : mAS) : Int32 := pl (fun i => (a.2.2.1) (5 + i)) (mw g n rs.2.1) (((a.1) 6).toNatClampNeg) 0
set_option maxHeartbeats 4000000 in
set_option maxRecDepth 100000 in
theorem lp_m_tenantNamed1 {γ : kΓ} {l : Launch} {p : Program} {e : Env} {s : State} {m : MethodId} {below : List Frame} {meth : Method} {c : Code} {A : Nat → Prop} (z : Nat) (z2 : Nat) (z10 : Nat) (z11 : Nat) (z12 : Nat) (z13 : Nat) (z14 : Nat) (z15 : Nat) (z16 : Nat) (z17 : Nat) (z18 : Nat) (z19 : Nat) (z22 : Nat) (z23 : Nat) (z24 : Nat) (z25 : Nat) (z26 : Nat) (z27 : Nat) (z28 : Nat) (z29 : Nat) (z30 : Nat) (z31 : Nat) (z32 : Nat) (z33 : Nat) (z36 : Nat) (z37 : Nat) (z38 : Nat) (z39 : Nat) (z40 : Nat) (z41 : Nat) (z42 : Nat) (z43 : Nat) (z44 : Nat) (z45 : Nat) (z46 : Nat) (z47 : Nat) (z48 : Nat) (z55 : Nat) (z56 : Nat) (z59 : Nat) (z60 : Nat) (z61 : Nat) (n0 : Int32) (n1 : Int32) (n49 : Int32) (n50 : Int32) (n51 : Int32) (n52 : Int32) (n53 : Int32) (n54 : Int32) (n57 : Int32) (n58 : Int32) (n62 : Int32) (n63 : Int64) (n : Nat) (g : Nat → Int32) (rs : mRS) (a : mAS) (T : Nat) (R9 : Int32) (hT : T ≤ 5) (hab : (a.1) 6 = nI T) (hC : kC γ p s m [.ref z, .int 1].toArray c cX12_tenantNamed 3 RX12 A) (hr : meth.sig.returnType = some .int) (hlocks : meth.locks = false) : ∀ (d i : Nat), T - i < d → i ≤ T → pl (fun i => (a.2.2.1) (5 + i)) (mw g n rs.2.1) (T - i) i = R9 → ∀ (H : Heap) (locs : List Loc), kW γ A ((mWz γ z z2 z10 z11 z12 z13 z14 z15 z16 z17 z18 z19 z22 z23 z24 z25 z26 z27 z28 z29 z30 z31 z32 z33 z36 z37 z38 z39 z40 z41 z42 z43 z44 z45 z46 z47 z48 z55 z56 z59 z60 z61 n0 n1 n49 n50 n51 n52 n53 n54 n57 n58 n62 n63 g n rs) ++ (mWa γ z10 z11 z12 z13 z14 z15 z16 z17 z18 z19 z22 z23 a)) s H locs → ∀ ls : Array Slot, lv_has ls 3 [(2, .int (nI (5 + i))), (0, .ref z), (1, .int 1)] → W p l e ({ frames := 0, cells := 0, slots := 0, locals := 0 } : Room) s m [.ref z, .int 1].toArray below meth c H locs 0 0 (MQ below (kQ γ A (fun r w1 => r = some (.int R9) ∧ w1 = ((mWz γ z z2 z10 z11 z12 z13 z14 z15 z16 z17 z18 z19 z22 z23 z24 z25 z26 z27 z28 z29 z30 z31 z32 z33 z36 z37 z38 z39 z40 z41 z42 z43 z44 z45 z46 z47 z48 z55 z56 z59 z60 z61 n0 n1 n49 n50 n51 n52 n53 n54 n57 n58 n62 n63 g n rs) ++ (mWa γ z10 z11 z12 z13 z14 z15 z16 z17 z18 z19 z22 z23 a)))) [.ref z, .int 1].toArray s 0 0 A) (F0 m 4 ls []) := by
  have hx := hC.1
  have hb := hC.2.1
  intro d
  induction d with
  | zero => intro i hd; exact absurd hd (Nat.not_lt_zero _)
  | succ d ih =>
    intro i hd him hR H locs hw ls hl
    refine lv_iload_n hx hb dX12_tenantNamed_4 rfl (lv_at hl 0 rfl) ?_
    refine lv_iconst (v := 5) hx hb dX12_tenantNamed_5 (by decide) ?_
    refine lv_iload_n hx hb dX12_tenantNamed_6 rfl (lv_at hl 2 rfl) ?_
    refine lv_imul hx hb dX12_tenantNamed_7 ?_
    refine lv_topi (fun x_135 ex_135 => ?_)
    obtain rfl : x_135 = 5 := ex_135.trans (by decide)
    refine lv_aload_n hx hb dX12_tenantNamed_8 rfl (lv_at hl 1 rfl) ?_
    refine fg_RX12_13 hC hw 0 rfl rfl dX12_tenantNamed_9 ?_
    refine lv_iconst (v := 5) hx hb dX12_tenantNamed_12 (by decide) ?_
    refine lv_iload_n hx hb dX12_tenantNamed_13 rfl (lv_at hl 2 rfl) ?_
    refine lv_imul hx hb dX12_tenantNamed_14 ?_
    refine lv_topi (fun x_136 ex_136 => ?_)
    obtain rfl : x_136 = 5 := ex_136.trans (by decide)
    refine lv_iconst (v := 1) hx hb dX12_tenantNamed_15 (by decide) ?_
    refine lv_iadd hx hb dX12_tenantNamed_16 ?_
    refine lv_topi (fun x_137 ex_137 => ?_)
    obtain rfl : x_137 = 6 := ex_137.trans (by decide)
    refine k_iald hC hw 2 rfl (k_in0 (by decide)) dX12_tenantNamed_17 ?_
    refine lv_topi (fun x_138 ex_138 => ?_)
    obtain rfl : x_138 = ((a.1) 6) := ex_138
    refine lv_iadd hx hb dX12_tenantNamed_18 ?_
    refine lv_topi (fun x_139 ex_139 => ?_)
    obtain rfl : x_139 = (nI (5 + T)) := ex_139.trans (by rw [hab]; exact nI_add 5 T)
    refine lv_icmp_ge (tgt := 48) hx hb dX12_tenantNamed_19 (by decide) (fun c6 => ?_) (fun c6 => ?_)
    · have h6 : ¬ i < T := fun h9 => absurd c6 (nI_ge (a := 5 + i) (b := 5 + T) (by omega) (by omega))
      refine lv_iconst (v := (-1)) hx hb dX12_tenantNamed_48 (by decide) ?_
      exact k_iret hC hr hlocks hw [0, 1, 2, 3, 4, 5, 6, 7, 8, 9, 10, 11, 12, 13] rfl rfl ⟨by rw [← hR, pl_e h6], rfl⟩ (by decide) (by decide) dX12_tenantNamed_49
    · have h6 : i < T := by rcases Nat.lt_or_ge i T with h9 | h9; exact h9; exact absurd (nI_le (a := 5 + T) (b := 5 + i) (by omega) (by omega)) c6
      refine lv_aload_n hx hb dX12_tenantNamed_22 rfl (lv_at hl 1 rfl) ?_
      refine fg_RX12_20 hC hw 0 rfl rfl dX12_tenantNamed_23 ?_
      refine lv_iload_n hx hb dX12_tenantNamed_26 rfl (lv_at hl 0 rfl) ?_
      refine k_lald hC hw 4 rfl (vp_in_nI (by omega) (by decide)) dX12_tenantNamed_27 ?_
      refine lv_topl (fun y ey => ?_)
      obtain rfl : y = (a.2.2.1) (5 + i) := (show y = (a.2.2.1) (nI (5 + i) : Int32).toNatClampNeg from ey).trans (by rw [nI_clamp (by omega)])
      refine lv_aload_n hx hb dX12_tenantNamed_28 rfl (lv_at hl 1 rfl) ?_
      refine fg_RX12_160 hC hw 0 rfl rfl dX12_tenantNamed_29 ?_
      refine W.lcmp hx hb dX12_tenantNamed_32 ?_
      refine lv_if_ne (tgt := 42) hx hb dX12_tenantNamed_33 (by decide) (fun hne => ?_) (fun heq => ?_)
      · have hx9 : ¬ (fun i => (a.2.2.1) (5 + i)) i = mw g n rs.2.1 := fun e9 => hne (by rw [show (a.2.2.1) (5 + i) = mw g n rs.2.1 from e9]; exact k_cmp_self9 _)
        refine lv_iinc (v := (nI (5 + (i + 1)))) (lv' := [(2, .int (nI (5 + (i + 1)))), (0, .ref z), (1, .int 1)]) hx hb dX12_tenantNamed_42 hl (k := 0) rfl (nI_1 _) (by decide) rfl (fun ls hl => ?_)
        refine lv_goto (tgt := 4) hx hb dX12_tenantNamed_45 (by decide) ?_
        exact ih (i + 1) (by omega) (by omega) ((pl_n h6 hx9).symm.trans hR) _ _ hw _ hl
      · have hx9 : (fun i => (a.2.2.1) (5 + i)) i = mw g n rs.2.1 := k_cmp0 heq
        refine lv_iload_n hx hb dX12_tenantNamed_36 rfl (lv_at hl 0 rfl) ?_
        refine lv_iconst (v := 5) hx hb dX12_tenantNamed_37 (by decide) ?_
        refine lv_iload_n hx hb dX12_tenantNamed_38 rfl (lv_at hl 2 rfl) ?_
        refine lv_imul hx hb dX12_tenantNamed_39 ?_
        refine lv_topi (fun x_140 ex_140 => ?_)
        obtain rfl : x_140 = 5 := ex_140.trans (by decide)
        refine lv_isub hx hb dX12_tenantNamed_40 ?_
        refine lv_topi (fun x_141 ex_141 => ?_)
        obtain rfl : x_141 = (nI i) := ex_141.trans (mI_sub)
        exact k_iret hC hr hlocks hw [0, 1, 2, 3, 4, 5, 6, 7, 8, 9, 10, 11, 12, 13] rfl rfl ⟨by rw [← hR, pl_y h6 hx9], rfl⟩ (by decide) (by decide) dX12_tenantNamed_41
set_option maxHeartbeats 4000000 in
set_option maxRecDepth 100000 in
theorem c_m_tenantNamed1 (γ : kΓ) (l : Launch) (z : Nat) (z2 : Nat) (z10 : Nat) (z11 : Nat) (z12 : Nat) (z13 : Nat) (z14 : Nat) (z15 : Nat) (z16 : Nat) (z17 : Nat) (z18 : Nat) (z19 : Nat) (z22 : Nat) (z23 : Nat) (z24 : Nat) (z25 : Nat) (z26 : Nat) (z27 : Nat) (z28 : Nat) (z29 : Nat) (z30 : Nat) (z31 : Nat) (z32 : Nat) (z33 : Nat) (z36 : Nat) (z37 : Nat) (z38 : Nat) (z39 : Nat) (z40 : Nat) (z41 : Nat) (z42 : Nat) (z43 : Nat) (z44 : Nat) (z45 : Nat) (z46 : Nat) (z47 : Nat) (z48 : Nat) (z55 : Nat) (z56 : Nat) (z59 : Nat) (z60 : Nat) (z61 : Nat) (n0 : Int32) (n1 : Int32) (n49 : Int32) (n50 : Int32) (n51 : Int32) (n52 : Int32) (n53 : Int32) (n54 : Int32) (n57 : Int32) (n58 : Int32) (n62 : Int32) (n63 : Int64) (n : Nat) (g : Nat → Int32) (rs : mRS) (a : mAS) (hn : n ≤ 1000) (hQ0 : 0 ≤ ((a.1) 6).toInt) (hQ5 : ((a.1) 6).toInt ≤ 5) : kM γ l yX12_tenantNamed cX12_tenantNamed 3 ((some .int)) ({ frames := 0, cells := 0, slots := 0, locals := 0 } : Room) [.ref z, .int 1] ((mWz γ z z2 z10 z11 z12 z13 z14 z15 z16 z17 z18 z19 z22 z23 z24 z25 z26 z27 z28 z29 z30 z31 z32 z33 z36 z37 z38 z39 z40 z41 z42 z43 z44 z45 z46 z47 z48 z55 z56 z59 z60 z61 n0 n1 n49 n50 n51 n52 n53 n54 n57 n58 n62 n63 g n rs) ++ (mWa γ z10 z11 z12 z13 z14 z15 z16 z17 z18 z19 z22 z23 a)) (fun r w1 => r = some (.int (F_m_tenantNamed1 g n rs a)) ∧ w1 = ((mWz γ z z2 z10 z11 z12 z13 z14 z15 z16 z17 z18 z19 z22 z23 z24 z25 z26 z27 z28 z29 z30 z31 z32 z33 z36 z37 z38 z39 z40 z41 z42 z43 z44 z45 z46 z47 z48 z55 z56 z59 z60 z61 n0 n1 n49 n50 n51 n52 n53 n54 n57 n58 n62 n63 g n rs) ++ (mWa γ z10 z11 z12 z13 z14 z15 z16 z17 z18 z19 z22 z23 a))) := by
  refine k_ofW (by decide) (Nat.le_of_ble_eq_true rfl) ?_
  intro p9 e s m below meth c A ls hC hr hlocks hname hw hl
  have hx := hC.1
  have hb := hC.2.1
  have hl : lv_has ls 3 [(0, .ref z), (1, .int 1)] := hl
  refine lv_iconst (v := 5) hx hb dX12_tenantNamed_0 (by decide) ?_
  refine lv_iload_n hx hb dX12_tenantNamed_1 rfl (lv_at hl 1 rfl) ?_
  refine lv_imul hx hb dX12_tenantNamed_2 ?_
  refine lv_topi (fun x_142 ex_142 => ?_)
  obtain rfl : x_142 = 5 := ex_142.trans (by decide)
  refine lv_istore_n (lv' := [(2, .int 5), (0, .ref z), (1, .int 1)]) hx hb dX12_tenantNamed_3 rfl hl (by decide) rfl (fun ls hl => ?_)
  exact lp_m_tenantNamed1 z z2 z10 z11 z12 z13 z14 z15 z16 z17 z18 z19 z22 z23 z24 z25 z26 z27 z28 z29 z30 z31 z32 z33 z36 z37 z38 z39 z40 z41 z42 z43 z44 z45 z46 z47 z48 z55 z56 z59 z60 z61 n0 n1 n49 n50 n51 n52 n53 n54 n57 n58 n62 n63 n g rs a (((a.1) 6).toNatClampNeg) _ (cl_le hQ5) (cl_nI hQ0) hC hr hlocks ((((a.1) 6).toNatClampNeg) + 1) 0 (by omega) (Nat.zero_le _) rfl _ _ hw _ hl

def F_m_needsNew (g : Nat → Int32) (n : Nat) (rs : mRS) (a : mAS) : Int32 × mRS :=
  if (F_m_isKept g n rs) = 0 then (if 0 ≤ (F_m_thoughtNamed1 g n rs a) then (0, (F_m_fails g n rs 3)) else (if (F_m_tenantNamed1 g n rs a) < 0 then (1, (mv g n ((rs.1), (rs.2.1), (rs.2.2.1), (mw g n (rs.2.1)), (rs.2.2.2.2.1), (rs.2.2.2.2.2)))) else (0, (F_m_fails g n rs 3)))) else (0, (F_m_fails g n rs 1))
set_option maxHeartbeats 4000000 in
set_option maxRecDepth 100000 in
theorem c_m_needsNew (γ : kΓ) (l : Launch) (z : Nat) (z2 : Nat) (z10 : Nat) (z11 : Nat) (z12 : Nat) (z13 : Nat) (z14 : Nat) (z15 : Nat) (z16 : Nat) (z17 : Nat) (z18 : Nat) (z19 : Nat) (z22 : Nat) (z23 : Nat) (z24 : Nat) (z25 : Nat) (z26 : Nat) (z27 : Nat) (z28 : Nat) (z29 : Nat) (z30 : Nat) (z31 : Nat) (z32 : Nat) (z33 : Nat) (z36 : Nat) (z37 : Nat) (z38 : Nat) (z39 : Nat) (z40 : Nat) (z41 : Nat) (z42 : Nat) (z43 : Nat) (z44 : Nat) (z45 : Nat) (z46 : Nat) (z47 : Nat) (z48 : Nat) (z55 : Nat) (z56 : Nat) (z59 : Nat) (z60 : Nat) (z61 : Nat) (n0 : Int32) (n1 : Int32) (n49 : Int32) (n50 : Int32) (n51 : Int32) (n52 : Int32) (n53 : Int32) (n54 : Int32) (n57 : Int32) (n58 : Int32) (n62 : Int32) (n63 : Int64) (n : Nat) (g : Nat → Int32) (rs : mRS) (a : mAS) (hn : n ≤ 1000) (hM : mOK a) : kM γ l yX12_needsNew cX12_needsNew 1 ((some .boolean)) ({ frames := 2, cells := 0, slots := 0, locals := 61 } : Room) [.ref z] ((mWz γ z z2 z10 z11 z12 z13 z14 z15 z16 z17 z18 z19 z22 z23 z24 z25 z26 z27 z28 z29 z30 z31 z32 z33 z36 z37 z38 z39 z40 z41 z42 z43 z44 z45 z46 z47 z48 z55 z56 z59 z60 z61 n0 n1 n49 n50 n51 n52 n53 n54 n57 n58 n62 n63 g n rs) ++ (mWa γ z10 z11 z12 z13 z14 z15 z16 z17 z18 z19 z22 z23 a)) (fun r w1 => r = some (.int ((F_m_needsNew g n rs a).1)) ∧ w1 = ((mWz γ z z2 z10 z11 z12 z13 z14 z15 z16 z17 z18 z19 z22 z23 z24 z25 z26 z27 z28 z29 z30 z31 z32 z33 z36 z37 z38 z39 z40 z41 z42 z43 z44 z45 z46 z47 z48 z55 z56 z59 z60 z61 n0 n1 n49 n50 n51 n52 n53 n54 n57 n58 n62 n63 g n ((F_m_needsNew g n rs a).2)) ++ (mWa γ z10 z11 z12 z13 z14 z15 z16 z17 z18 z19 z22 z23 a))) := by
  refine k_ofW (by decide) (Nat.le_of_ble_eq_true rfl) ?_
  intro p9 e s m below meth c A ls hC hr hlocks hname hw hl
  have hx := hC.1
  have hb := hC.2.1
  have hl : lv_has ls 1 [(0, .ref z)] := hl
  refine lv_aload_n hx hb dX12_needsNew_0 rfl (lv_at hl 0 rfl) ?_
  refine k_V (wr := (mWa γ z10 z11 z12 z13 z14 z15 z16 z17 z18 z19 z22 z23 a)) 0 gw_1429 gw_1431 gp_60 gw_15 gw_1432 hd_X12_isKept hC hw (c_m_isKept γ l z z2 z10 z11 z12 z13 z14 z15 z16 z17 z18 z19 z22 z23 z24 z25 z26 z27 z28 z29 z30 z31 z32 z33 z36 z37 z38 z39 z40 z41 z42 z43 z44 z45 z46 z47 z48 z55 z56 z59 z60 z61 n0 n1 n49 n50 n51 n52 n53 n54 n57 n58 n62 n63 n g rs hn) ⟨by decide, by decide⟩ ⟨by decide, by decide⟩ hl.1 rfl 0 rfl rfl rfl (Nat.le_of_ble_eq_true rfl) [0, 1] [2, 3, 4, 5, 6, 7, 8, 9, 10, 11, 12, 13] rfl rfl rfl rfl (by decide) dX12_needsNew_1 (fun r w1 H locs hq hw => ?_)
  obtain ⟨rfl, rfl⟩ := hq
  have hw : kW γ A ((mWa γ z10 z11 z12 z13 z14 z15 z16 z17 z18 z19 z22 z23 a) ++ (mWz γ z z2 z10 z11 z12 z13 z14 z15 z16 z17 z18 z19 z22 z23 z24 z25 z26 z27 z28 z29 z30 z31 z32 z33 z36 z37 z38 z39 z40 z41 z42 z43 z44 z45 z46 z47 z48 z55 z56 z59 z60 z61 n0 n1 n49 n50 n51 n52 n53 n54 n57 n58 n62 n63 g n rs)) s H locs := hw
  refine W.eq (g2 := F0 m 4 ls [.int (F_m_isKept g n rs)]) rfl ?_
  refine lv_if_eq (tgt := 13) hx hb dX12_needsNew_4 (by decide) (fun c_146 => ?_) (fun c_146 => ?_)
  · refine lv_aload_n hx hb dX12_needsNew_13 rfl (lv_at hl 0 rfl) ?_
    refine lv_iconst (v := 1) hx hb dX12_needsNew_14 (by decide) ?_
    refine k_V (wr := []) 1 gw_1452 gw_1454 gp_61 gw_15 gw_1455 hd_X12_thoughtNamed hC hw (c_m_thoughtNamed1 γ l z z2 z10 z11 z12 z13 z14 z15 z16 z17 z18 z19 z22 z23 z24 z25 z26 z27 z28 z29 z30 z31 z32 z33 z36 z37 z38 z39 z40 z41 z42 z43 z44 z45 z46 z47 z48 z55 z56 z59 z60 z61 n0 n1 n49 n50 n51 n52 n53 n54 n57 n58 n62 n63 n g rs a hn hM.1.1 hM.1.2) ⟨by decide, by decide⟩ ⟨by decide, by decide⟩ hl.1 rfl 12 rfl rfl rfl (Nat.le_of_ble_eq_true rfl) [12, 13, 0, 1, 2, 3, 4, 5, 6, 7, 8, 9, 10, 11] [] rfl rfl rfl rfl (by decide) dX12_needsNew_15 (fun r w1 H locs hq hw => ?_)
    obtain ⟨rfl, rfl⟩ := hq
    have hw : kW γ A ((mWz γ z z2 z10 z11 z12 z13 z14 z15 z16 z17 z18 z19 z22 z23 z24 z25 z26 z27 z28 z29 z30 z31 z32 z33 z36 z37 z38 z39 z40 z41 z42 z43 z44 z45 z46 z47 z48 z55 z56 z59 z60 z61 n0 n1 n49 n50 n51 n52 n53 n54 n57 n58 n62 n63 g n rs) ++ (mWa γ z10 z11 z12 z13 z14 z15 z16 z17 z18 z19 z22 z23 a)) s H locs := hw
    refine W.eq (g2 := F0 m 18 ls [.int (F_m_thoughtNamed1 g n rs a)]) rfl ?_
    refine lv_if_ge (tgt := 29) hx hb dX12_needsNew_18 (by decide) (fun c_147 => ?_) (fun c_147 => ?_)
    · refine lv_aload_n hx hb dX12_needsNew_29 rfl (lv_at hl 0 rfl) ?_
      refine lv_iconst (v := 3) hx hb dX12_needsNew_30 (by decide) ?_
      refine k_V (wr := (mWa γ z10 z11 z12 z13 z14 z15 z16 z17 z18 z19 z22 z23 a)) 1 gw_1421 gw_1423 gp_58 gw_15 gw_1424 hd_X12_fails hC hw (c_m_fails γ l z z2 z10 z11 z12 z13 z14 z15 z16 z17 z18 z19 z22 z23 z24 z25 z26 z27 z28 z29 z30 z31 z32 z33 z36 z37 z38 z39 z40 z41 z42 z43 z44 z45 z46 z47 z48 z55 z56 z59 z60 z61 n0 n1 n49 n50 n51 n52 n53 n54 n57 n58 n62 n63 n g rs 3 hn) ⟨by decide, by decide⟩ ⟨by decide, by decide⟩ hl.1 rfl 0 rfl rfl rfl (Nat.le_of_ble_eq_true rfl) [0, 1] [2, 3, 4, 5, 6, 7, 8, 9, 10, 11, 12, 13] rfl rfl rfl rfl (by decide) dX12_needsNew_31 (fun r w1 H locs hq hw => ?_)
      obtain ⟨rfl, rfl⟩ := hq
      have hw : kW γ A ((mWa γ z10 z11 z12 z13 z14 z15 z16 z17 z18 z19 z22 z23 a) ++ (mWz γ z z2 z10 z11 z12 z13 z14 z15 z16 z17 z18 z19 z22 z23 z24 z25 z26 z27 z28 z29 z30 z31 z32 z33 z36 z37 z38 z39 z40 z41 z42 z43 z44 z45 z46 z47 z48 z55 z56 z59 z60 z61 n0 n1 n49 n50 n51 n52 n53 n54 n57 n58 n62 n63 g n (F_m_fails g n rs 3))) s H locs := hw
      refine W.eq (g2 := F0 m 34 ls [.int 0]) rfl ?_
      have hE : (F_m_needsNew g n rs a) = (0, (F_m_fails g n rs 3)) := by unfold F_m_needsNew; rw [if_pos c_146, if_pos c_147]
      have hw : kW γ A ((mWa γ z10 z11 z12 z13 z14 z15 z16 z17 z18 z19 z22 z23 a) ++ (mWz γ z z2 z10 z11 z12 z13 z14 z15 z16 z17 z18 z19 z22 z23 z24 z25 z26 z27 z28 z29 z30 z31 z32 z33 z36 z37 z38 z39 z40 z41 z42 z43 z44 z45 z46 z47 z48 z55 z56 z59 z60 z61 n0 n1 n49 n50 n51 n52 n53 n54 n57 n58 n62 n63 g n ((F_m_needsNew g n rs a).2))) s H locs := by first | (rw [hE]; exact hw) | exact hw
      exact k_zret hC hr hlocks rfl hw [12, 13, 0, 1, 2, 3, 4, 5, 6, 7, 8, 9, 10, 11] rfl rfl ⟨by rw [hE], rfl⟩ (by decide) (by decide) dX12_needsNew_34
    · refine lv_aload_n hx hb dX12_needsNew_21 rfl (lv_at hl 0 rfl) ?_
      refine lv_iconst (v := 1) hx hb dX12_needsNew_22 (by decide) ?_
      refine k_V (wr := []) 1 gw_1456 gw_1458 gp_62 gw_15 gw_1459 hd_X12_tenantNamed hC hw (c_m_tenantNamed1 γ l z z2 z10 z11 z12 z13 z14 z15 z16 z17 z18 z19 z22 z23 z24 z25 z26 z27 z28 z29 z30 z31 z32 z33 z36 z37 z38 z39 z40 z41 z42 z43 z44 z45 z46 z47 z48 z55 z56 z59 z60 z61 n0 n1 n49 n50 n51 n52 n53 n54 n57 n58 n62 n63 n g rs a hn hM.2.1 hM.2.2) ⟨by decide, by decide⟩ ⟨by decide, by decide⟩ hl.1 rfl 0 rfl rfl rfl (Nat.le_of_ble_eq_true rfl) [0, 1, 2, 3, 4, 5, 6, 7, 8, 9, 10, 11, 12, 13] [] rfl rfl rfl rfl (by decide) dX12_needsNew_23 (fun r w1 H locs hq hw => ?_)
      obtain ⟨rfl, rfl⟩ := hq
      have hw : kW γ A ((mWz γ z z2 z10 z11 z12 z13 z14 z15 z16 z17 z18 z19 z22 z23 z24 z25 z26 z27 z28 z29 z30 z31 z32 z33 z36 z37 z38 z39 z40 z41 z42 z43 z44 z45 z46 z47 z48 z55 z56 z59 z60 z61 n0 n1 n49 n50 n51 n52 n53 n54 n57 n58 n62 n63 g n rs) ++ (mWa γ z10 z11 z12 z13 z14 z15 z16 z17 z18 z19 z22 z23 a)) s H locs := hw
      refine W.eq (g2 := F0 m 26 ls [.int (F_m_tenantNamed1 g n rs a)]) rfl ?_
      refine lv_if_lt (tgt := 35) hx hb dX12_needsNew_26 (by decide) (fun c_148 => ?_) (fun c_148 => ?_)
      · refine lv_aload_n hx hb dX12_needsNew_35 rfl (lv_at hl 0 rfl) ?_
        refine lv_aload_n hx hb dX12_needsNew_36 rfl (lv_at hl 0 rfl) ?_
        refine fg_RX12_160 hC hw 0 rfl rfl dX12_needsNew_37 ?_
        refine fs_RX12_283 hC hw 0 rfl rfl rfl (Nat.le_of_ble_eq_true rfl) dX12_needsNew_40 (fun H locs hw => ?_)
        have hw : kW γ A ((mWz γ z z2 z10 z11 z12 z13 z14 z15 z16 z17 z18 z19 z22 z23 z24 z25 z26 z27 z28 z29 z30 z31 z32 z33 z36 z37 z38 z39 z40 z41 z42 z43 z44 z45 z46 z47 z48 z55 z56 z59 z60 z61 n0 n1 n49 n50 n51 n52 n53 n54 n57 n58 n62 n63 g n ((rs.1), (rs.2.1), (rs.2.2.1), (mw g n (rs.2.1)), (rs.2.2.2.2.1), (rs.2.2.2.2.2))) ++ (mWa γ z10 z11 z12 z13 z14 z15 z16 z17 z18 z19 z22 z23 a)) s H locs := hw
        refine lv_aload_n hx hb dX12_needsNew_43 rfl (lv_at hl 0 rfl) ?_
        refine k_V (wr := (mWa γ z10 z11 z12 z13 z14 z15 z16 z17 z18 z19 z22 z23 a)) 0 gw_1402 gw_1404 gp_54 gw_15 gw_1405 hd_X12_nextToken hC hw (c_mv γ l z z2 z10 z11 z12 z13 z14 z15 z16 z17 z18 z19 z22 z23 z24 z25 z26 z27 z28 z29 z30 z31 z32 z33 z36 z37 z38 z39 z40 z41 z42 z43 z44 z45 z46 z47 z48 z55 z56 z59 z60 z61 n0 n1 n49 n50 n51 n52 n53 n54 n57 n58 n62 n63 n g ((rs.1), (rs.2.1), (rs.2.2.1), (mw g n (rs.2.1)), (rs.2.2.2.2.1), (rs.2.2.2.2.2)) hn) ⟨by decide, by decide⟩ ⟨by decide, by decide⟩ hl.1 rfl 0 rfl rfl rfl (Nat.le_of_ble_eq_true rfl) [0, 1] [2, 3, 4, 5, 6, 7, 8, 9, 10, 11, 12, 13] rfl rfl rfl rfl (by decide) dX12_needsNew_44 (fun r w1 H locs hq hw => ?_)
        obtain ⟨rfl, rfl⟩ := hq
        have hw : kW γ A ((mWa γ z10 z11 z12 z13 z14 z15 z16 z17 z18 z19 z22 z23 a) ++ (mWz γ z z2 z10 z11 z12 z13 z14 z15 z16 z17 z18 z19 z22 z23 z24 z25 z26 z27 z28 z29 z30 z31 z32 z33 z36 z37 z38 z39 z40 z41 z42 z43 z44 z45 z46 z47 z48 z55 z56 z59 z60 z61 n0 n1 n49 n50 n51 n52 n53 n54 n57 n58 n62 n63 g n (mv g n ((rs.1), (rs.2.1), (rs.2.2.1), (mw g n (rs.2.1)), (rs.2.2.2.2.1), (rs.2.2.2.2.2))))) s H locs := hw
        refine W.eq (g2 := F0 m 47 ls []) rfl ?_
        refine lv_iconst (v := 1) hx hb dX12_needsNew_47 (by decide) ?_
        have hE : (F_m_needsNew g n rs a) = (1, (mv g n ((rs.1), (rs.2.1), (rs.2.2.1), (mw g n (rs.2.1)), (rs.2.2.2.2.1), (rs.2.2.2.2.2)))) := by unfold F_m_needsNew; rw [if_pos c_146, if_neg c_147, if_pos c_148]
        have hw : kW γ A ((mWa γ z10 z11 z12 z13 z14 z15 z16 z17 z18 z19 z22 z23 a) ++ (mWz γ z z2 z10 z11 z12 z13 z14 z15 z16 z17 z18 z19 z22 z23 z24 z25 z26 z27 z28 z29 z30 z31 z32 z33 z36 z37 z38 z39 z40 z41 z42 z43 z44 z45 z46 z47 z48 z55 z56 z59 z60 z61 n0 n1 n49 n50 n51 n52 n53 n54 n57 n58 n62 n63 g n ((F_m_needsNew g n rs a).2))) s H locs := by first | (rw [hE]; exact hw) | exact hw
        exact k_zret hC hr hlocks rfl hw [12, 13, 0, 1, 2, 3, 4, 5, 6, 7, 8, 9, 10, 11] rfl rfl ⟨by rw [hE], rfl⟩ (by decide) (by decide) dX12_needsNew_48
      · refine lv_aload_n hx hb dX12_needsNew_29 rfl (lv_at hl 0 rfl) ?_
        refine lv_iconst (v := 3) hx hb dX12_needsNew_30 (by decide) ?_
        refine k_V (wr := (mWa γ z10 z11 z12 z13 z14 z15 z16 z17 z18 z19 z22 z23 a)) 1 gw_1421 gw_1423 gp_58 gw_15 gw_1424 hd_X12_fails hC hw (c_m_fails γ l z z2 z10 z11 z12 z13 z14 z15 z16 z17 z18 z19 z22 z23 z24 z25 z26 z27 z28 z29 z30 z31 z32 z33 z36 z37 z38 z39 z40 z41 z42 z43 z44 z45 z46 z47 z48 z55 z56 z59 z60 z61 n0 n1 n49 n50 n51 n52 n53 n54 n57 n58 n62 n63 n g rs 3 hn) ⟨by decide, by decide⟩ ⟨by decide, by decide⟩ hl.1 rfl 0 rfl rfl rfl (Nat.le_of_ble_eq_true rfl) [0, 1] [2, 3, 4, 5, 6, 7, 8, 9, 10, 11, 12, 13] rfl rfl rfl rfl (by decide) dX12_needsNew_31 (fun r w1 H locs hq hw => ?_)
        obtain ⟨rfl, rfl⟩ := hq
        have hw : kW γ A ((mWa γ z10 z11 z12 z13 z14 z15 z16 z17 z18 z19 z22 z23 a) ++ (mWz γ z z2 z10 z11 z12 z13 z14 z15 z16 z17 z18 z19 z22 z23 z24 z25 z26 z27 z28 z29 z30 z31 z32 z33 z36 z37 z38 z39 z40 z41 z42 z43 z44 z45 z46 z47 z48 z55 z56 z59 z60 z61 n0 n1 n49 n50 n51 n52 n53 n54 n57 n58 n62 n63 g n (F_m_fails g n rs 3))) s H locs := hw
        refine W.eq (g2 := F0 m 34 ls [.int 0]) rfl ?_
        have hE : (F_m_needsNew g n rs a) = (0, (F_m_fails g n rs 3)) := by unfold F_m_needsNew; rw [if_pos c_146, if_neg c_147, if_neg c_148]
        have hw : kW γ A ((mWa γ z10 z11 z12 z13 z14 z15 z16 z17 z18 z19 z22 z23 a) ++ (mWz γ z z2 z10 z11 z12 z13 z14 z15 z16 z17 z18 z19 z22 z23 z24 z25 z26 z27 z28 z29 z30 z31 z32 z33 z36 z37 z38 z39 z40 z41 z42 z43 z44 z45 z46 z47 z48 z55 z56 z59 z60 z61 n0 n1 n49 n50 n51 n52 n53 n54 n57 n58 n62 n63 g n ((F_m_needsNew g n rs a).2))) s H locs := by first | (rw [hE]; exact hw) | exact hw
        exact k_zret hC hr hlocks rfl hw [12, 13, 0, 1, 2, 3, 4, 5, 6, 7, 8, 9, 10, 11] rfl rfl ⟨by rw [hE], rfl⟩ (by decide) (by decide) dX12_needsNew_34
  · refine lv_aload_n hx hb dX12_needsNew_7 rfl (lv_at hl 0 rfl) ?_
    refine lv_iconst (v := 1) hx hb dX12_needsNew_8 (by decide) ?_
    refine k_V (wr := (mWa γ z10 z11 z12 z13 z14 z15 z16 z17 z18 z19 z22 z23 a)) 1 gw_1421 gw_1423 gp_58 gw_15 gw_1424 hd_X12_fails hC hw (c_m_fails γ l z z2 z10 z11 z12 z13 z14 z15 z16 z17 z18 z19 z22 z23 z24 z25 z26 z27 z28 z29 z30 z31 z32 z33 z36 z37 z38 z39 z40 z41 z42 z43 z44 z45 z46 z47 z48 z55 z56 z59 z60 z61 n0 n1 n49 n50 n51 n52 n53 n54 n57 n58 n62 n63 n g rs 1 hn) ⟨by decide, by decide⟩ ⟨by decide, by decide⟩ hl.1 rfl 12 rfl rfl rfl (Nat.le_of_ble_eq_true rfl) [12, 13] [0, 1, 2, 3, 4, 5, 6, 7, 8, 9, 10, 11] rfl rfl rfl rfl (by decide) dX12_needsNew_9 (fun r w1 H locs hq hw => ?_)
    obtain ⟨rfl, rfl⟩ := hq
    have hw : kW γ A ((mWa γ z10 z11 z12 z13 z14 z15 z16 z17 z18 z19 z22 z23 a) ++ (mWz γ z z2 z10 z11 z12 z13 z14 z15 z16 z17 z18 z19 z22 z23 z24 z25 z26 z27 z28 z29 z30 z31 z32 z33 z36 z37 z38 z39 z40 z41 z42 z43 z44 z45 z46 z47 z48 z55 z56 z59 z60 z61 n0 n1 n49 n50 n51 n52 n53 n54 n57 n58 n62 n63 g n (F_m_fails g n rs 1))) s H locs := hw
    refine W.eq (g2 := F0 m 12 ls [.int 0]) rfl ?_
    have hE : (F_m_needsNew g n rs a) = (0, (F_m_fails g n rs 1)) := by unfold F_m_needsNew; rw [if_neg c_146]
    have hw : kW γ A ((mWa γ z10 z11 z12 z13 z14 z15 z16 z17 z18 z19 z22 z23 a) ++ (mWz γ z z2 z10 z11 z12 z13 z14 z15 z16 z17 z18 z19 z22 z23 z24 z25 z26 z27 z28 z29 z30 z31 z32 z33 z36 z37 z38 z39 z40 z41 z42 z43 z44 z45 z46 z47 z48 z55 z56 z59 z60 z61 n0 n1 n49 n50 n51 n52 n53 n54 n57 n58 n62 n63 g n ((F_m_needsNew g n rs a).2))) s H locs := by first | (rw [hE]; exact hw) | exact hw
    exact k_zret hC hr hlocks rfl hw [12, 13, 0, 1, 2, 3, 4, 5, 6, 7, 8, 9, 10, 11] rfl rfl ⟨by rw [hE], rfl⟩ (by decide) (by decide) dX12_needsNew_12

def F_m_needsThought1 (g : Nat → Int32) (n : Nat) (rs : mRS) (a : mAS) : Int32 × mRS :=
  if (F_m_isKept g n rs) = 0 then (if 0 ≤ (F_m_thoughtNamed1 g n rs a) then (1, ((rs.1), (rs.2.1), (F_m_thoughtNamed1 g n rs a), (rs.2.2.2.1), (rs.2.2.2.2.1), (rs.2.2.2.2.2))) else (0, (F_m_fails g n ((rs.1), (rs.2.1), (F_m_thoughtNamed1 g n rs a), (rs.2.2.2.1), (rs.2.2.2.2.1), (rs.2.2.2.2.2)) 2))) else (0, (F_m_fails g n rs 1))
set_option maxHeartbeats 4000000 in
set_option maxRecDepth 100000 in
theorem c_m_needsThought1 (γ : kΓ) (l : Launch) (z : Nat) (z2 : Nat) (z10 : Nat) (z11 : Nat) (z12 : Nat) (z13 : Nat) (z14 : Nat) (z15 : Nat) (z16 : Nat) (z17 : Nat) (z18 : Nat) (z19 : Nat) (z22 : Nat) (z23 : Nat) (z24 : Nat) (z25 : Nat) (z26 : Nat) (z27 : Nat) (z28 : Nat) (z29 : Nat) (z30 : Nat) (z31 : Nat) (z32 : Nat) (z33 : Nat) (z36 : Nat) (z37 : Nat) (z38 : Nat) (z39 : Nat) (z40 : Nat) (z41 : Nat) (z42 : Nat) (z43 : Nat) (z44 : Nat) (z45 : Nat) (z46 : Nat) (z47 : Nat) (z48 : Nat) (z55 : Nat) (z56 : Nat) (z59 : Nat) (z60 : Nat) (z61 : Nat) (n0 : Int32) (n1 : Int32) (n49 : Int32) (n50 : Int32) (n51 : Int32) (n52 : Int32) (n53 : Int32) (n54 : Int32) (n57 : Int32) (n58 : Int32) (n62 : Int32) (n63 : Int64) (n : Nat) (g : Nat → Int32) (rs : mRS) (a : mAS) (hn : n ≤ 1000) (hM : mOK a) : kM γ l yX12_needsThought cX12_needsThought 2 ((some .boolean)) ({ frames := 1, cells := 0, slots := 0, locals := 22 } : Room) [.ref z, .int 1] ((mWz γ z z2 z10 z11 z12 z13 z14 z15 z16 z17 z18 z19 z22 z23 z24 z25 z26 z27 z28 z29 z30 z31 z32 z33 z36 z37 z38 z39 z40 z41 z42 z43 z44 z45 z46 z47 z48 z55 z56 z59 z60 z61 n0 n1 n49 n50 n51 n52 n53 n54 n57 n58 n62 n63 g n rs) ++ (mWa γ z10 z11 z12 z13 z14 z15 z16 z17 z18 z19 z22 z23 a)) (fun r w1 => r = some (.int ((F_m_needsThought1 g n rs a).1)) ∧ w1 = ((mWz γ z z2 z10 z11 z12 z13 z14 z15 z16 z17 z18 z19 z22 z23 z24 z25 z26 z27 z28 z29 z30 z31 z32 z33 z36 z37 z38 z39 z40 z41 z42 z43 z44 z45 z46 z47 z48 z55 z56 z59 z60 z61 n0 n1 n49 n50 n51 n52 n53 n54 n57 n58 n62 n63 g n ((F_m_needsThought1 g n rs a).2)) ++ (mWa γ z10 z11 z12 z13 z14 z15 z16 z17 z18 z19 z22 z23 a))) := by
  refine k_ofW (by decide) (Nat.le_of_ble_eq_true rfl) ?_
  intro p9 e s m below meth c A ls hC hr hlocks hname hw hl
  have hx := hC.1
  have hb := hC.2.1
  have hl : lv_has ls 2 [(0, .ref z), (1, .int 1)] := hl
  refine lv_aload_n hx hb dX12_needsThought_0 rfl (lv_at hl 0 rfl) ?_
  refine k_V (wr := (mWa γ z10 z11 z12 z13 z14 z15 z16 z17 z18 z19 z22 z23 a)) 0 gw_1429 gw_1431 gp_60 gw_15 gw_1432 hd_X12_isKept hC hw (c_m_isKept γ l z z2 z10 z11 z12 z13 z14 z15 z16 z17 z18 z19 z22 z23 z24 z25 z26 z27 z28 z29 z30 z31 z32 z33 z36 z37 z38 z39 z40 z41 z42 z43 z44 z45 z46 z47 z48 z55 z56 z59 z60 z61 n0 n1 n49 n50 n51 n52 n53 n54 n57 n58 n62 n63 n g rs hn) ⟨by decide, by decide⟩ ⟨by decide, by decide⟩ hl.1 rfl 0 rfl rfl rfl (Nat.le_of_ble_eq_true rfl) [0, 1] [2, 3, 4, 5, 6, 7, 8, 9, 10, 11, 12, 13] rfl rfl rfl rfl (by decide) dX12_needsThought_1 (fun r w1 H locs hq hw => ?_)
  obtain ⟨rfl, rfl⟩ := hq
  have hw : kW γ A ((mWa γ z10 z11 z12 z13 z14 z15 z16 z17 z18 z19 z22 z23 a) ++ (mWz γ z z2 z10 z11 z12 z13 z14 z15 z16 z17 z18 z19 z22 z23 z24 z25 z26 z27 z28 z29 z30 z31 z32 z33 z36 z37 z38 z39 z40 z41 z42 z43 z44 z45 z46 z47 z48 z55 z56 z59 z60 z61 n0 n1 n49 n50 n51 n52 n53 n54 n57 n58 n62 n63 g n rs)) s H locs := hw
  refine W.eq (g2 := F0 m 4 ls [.int (F_m_isKept g n rs)]) rfl ?_
  refine lv_if_eq (tgt := 13) hx hb dX12_needsThought_4 (by decide) (fun c_151 => ?_) (fun c_151 => ?_)
  · refine lv_aload_n hx hb dX12_needsThought_13 rfl (lv_at hl 0 rfl) ?_
    refine lv_aload_n hx hb dX12_needsThought_14 rfl (lv_at hl 0 rfl) ?_
    refine lv_iload_n hx hb dX12_needsThought_15 rfl (lv_at hl 1 rfl) ?_
    refine k_V (wr := []) 1 gw_1452 gw_1454 gp_61 gw_15 gw_1455 hd_X12_thoughtNamed hC hw (c_m_thoughtNamed1 γ l z z2 z10 z11 z12 z13 z14 z15 z16 z17 z18 z19 z22 z23 z24 z25 z26 z27 z28 z29 z30 z31 z32 z33 z36 z37 z38 z39 z40 z41 z42 z43 z44 z45 z46 z47 z48 z55 z56 z59 z60 z61 n0 n1 n49 n50 n51 n52 n53 n54 n57 n58 n62 n63 n g rs a hn hM.1.1 hM.1.2) ⟨by decide, by decide⟩ ⟨by decide, by decide⟩ hl.1 rfl 12 rfl rfl rfl (Nat.le_of_ble_eq_true rfl) [12, 13, 0, 1, 2, 3, 4, 5, 6, 7, 8, 9, 10, 11] [] rfl rfl rfl rfl (by decide) dX12_needsThought_16 (fun r w1 H locs hq hw => ?_)
    obtain ⟨rfl, rfl⟩ := hq
    have hw : kW γ A ((mWz γ z z2 z10 z11 z12 z13 z14 z15 z16 z17 z18 z19 z22 z23 z24 z25 z26 z27 z28 z29 z30 z31 z32 z33 z36 z37 z38 z39 z40 z41 z42 z43 z44 z45 z46 z47 z48 z55 z56 z59 z60 z61 n0 n1 n49 n50 n51 n52 n53 n54 n57 n58 n62 n63 g n rs) ++ (mWa γ z10 z11 z12 z13 z14 z15 z16 z17 z18 z19 z22 z23 a)) s H locs := hw
    refine W.eq (g2 := F0 m 19 ls [.int (F_m_thoughtNamed1 g n rs a), .ref z]) rfl ?_
    refine fs_RX12_266 hC hw 0 rfl rfl rfl (Nat.le_of_ble_eq_true rfl) dX12_needsThought_19 (fun H locs hw => ?_)
    have hw : kW γ A ((mWz γ z z2 z10 z11 z12 z13 z14 z15 z16 z17 z18 z19 z22 z23 z24 z25 z26 z27 z28 z29 z30 z31 z32 z33 z36 z37 z38 z39 z40 z41 z42 z43 z44 z45 z46 z47 z48 z55 z56 z59 z60 z61 n0 n1 n49 n50 n51 n52 n53 n54 n57 n58 n62 n63 g n ((rs.1), (rs.2.1), (F_m_thoughtNamed1 g n rs a), (rs.2.2.2.1), (rs.2.2.2.2.1), (rs.2.2.2.2.2))) ++ (mWa γ z10 z11 z12 z13 z14 z15 z16 z17 z18 z19 z22 z23 a)) s H locs := hw
    refine lv_aload_n hx hb dX12_needsThought_22 rfl (lv_at hl 0 rfl) ?_
    refine fg_RX12_266 hC hw 0 rfl rfl dX12_needsThought_23 ?_
    refine lv_if_ge (tgt := 37) hx hb dX12_needsThought_26 (by decide) (fun c_152 => ?_) (fun c_152 => ?_)
    · refine lv_iconst (v := 1) hx hb dX12_needsThought_37 (by decide) ?_
      refine lv_goto (tgt := 42) hx hb dX12_needsThought_38 (by decide) ?_
      have hE : (F_m_needsThought1 g n rs a) = (1, ((rs.1), (rs.2.1), (F_m_thoughtNamed1 g n rs a), (rs.2.2.2.1), (rs.2.2.2.2.1), (rs.2.2.2.2.2))) := by unfold F_m_needsThought1; rw [if_pos c_151, if_pos c_152]
      have hw : kW γ A ((mWz γ z z2 z10 z11 z12 z13 z14 z15 z16 z17 z18 z19 z22 z23 z24 z25 z26 z27 z28 z29 z30 z31 z32 z33 z36 z37 z38 z39 z40 z41 z42 z43 z44 z45 z46 z47 z48 z55 z56 z59 z60 z61 n0 n1 n49 n50 n51 n52 n53 n54 n57 n58 n62 n63 g n ((F_m_needsThought1 g n rs a).2)) ++ (mWa γ z10 z11 z12 z13 z14 z15 z16 z17 z18 z19 z22 z23 a)) s H locs := by first | (rw [hE]; exact hw) | exact hw
      exact k_zret hC hr hlocks rfl hw [0, 1, 2, 3, 4, 5, 6, 7, 8, 9, 10, 11, 12, 13] rfl rfl ⟨by rw [hE], rfl⟩ (by decide) (by decide) dX12_needsThought_42
    · refine lv_aload_n hx hb dX12_needsThought_29 rfl (lv_at hl 0 rfl) ?_
      refine lv_iconst (v := 2) hx hb dX12_needsThought_30 (by decide) ?_
      refine k_V (wr := (mWa γ z10 z11 z12 z13 z14 z15 z16 z17 z18 z19 z22 z23 a)) 1 gw_1421 gw_1423 gp_58 gw_15 gw_1424 hd_X12_fails hC hw (c_m_fails γ l z z2 z10 z11 z12 z13 z14 z15 z16 z17 z18 z19 z22 z23 z24 z25 z26 z27 z28 z29 z30 z31 z32 z33 z36 z37 z38 z39 z40 z41 z42 z43 z44 z45 z46 z47 z48 z55 z56 z59 z60 z61 n0 n1 n49 n50 n51 n52 n53 n54 n57 n58 n62 n63 n g ((rs.1), (rs.2.1), (F_m_thoughtNamed1 g n rs a), (rs.2.2.2.1), (rs.2.2.2.2.1), (rs.2.2.2.2.2)) 2 hn) ⟨by decide, by decide⟩ ⟨by decide, by decide⟩ hl.1 rfl 0 rfl rfl rfl (Nat.le_of_ble_eq_true rfl) [0, 1] [2, 3, 4, 5, 6, 7, 8, 9, 10, 11, 12, 13] rfl rfl rfl rfl (by decide) dX12_needsThought_31 (fun r w1 H locs hq hw => ?_)
      obtain ⟨rfl, rfl⟩ := hq
      have hw : kW γ A ((mWa γ z10 z11 z12 z13 z14 z15 z16 z17 z18 z19 z22 z23 a) ++ (mWz γ z z2 z10 z11 z12 z13 z14 z15 z16 z17 z18 z19 z22 z23 z24 z25 z26 z27 z28 z29 z30 z31 z32 z33 z36 z37 z38 z39 z40 z41 z42 z43 z44 z45 z46 z47 z48 z55 z56 z59 z60 z61 n0 n1 n49 n50 n51 n52 n53 n54 n57 n58 n62 n63 g n (F_m_fails g n ((rs.1), (rs.2.1), (F_m_thoughtNamed1 g n rs a), (rs.2.2.2.1), (rs.2.2.2.2.1), (rs.2.2.2.2.2)) 2))) s H locs := hw
      refine W.eq (g2 := F0 m 34 ls [.int 0]) rfl ?_
      refine lv_if_eq (tgt := 41) hx hb dX12_needsThought_34 (by decide) (fun _ => ?_) (fun h => absurd (by decide) h)
      refine lv_iconst (v := 0) hx hb dX12_needsThought_41 (by decide) ?_
      have hE : (F_m_needsThought1 g n rs a) = (0, (F_m_fails g n ((rs.1), (rs.2.1), (F_m_thoughtNamed1 g n rs a), (rs.2.2.2.1), (rs.2.2.2.2.1), (rs.2.2.2.2.2)) 2)) := by unfold F_m_needsThought1; rw [if_pos c_151, if_neg c_152]
      have hw : kW γ A ((mWa γ z10 z11 z12 z13 z14 z15 z16 z17 z18 z19 z22 z23 a) ++ (mWz γ z z2 z10 z11 z12 z13 z14 z15 z16 z17 z18 z19 z22 z23 z24 z25 z26 z27 z28 z29 z30 z31 z32 z33 z36 z37 z38 z39 z40 z41 z42 z43 z44 z45 z46 z47 z48 z55 z56 z59 z60 z61 n0 n1 n49 n50 n51 n52 n53 n54 n57 n58 n62 n63 g n ((F_m_needsThought1 g n rs a).2))) s H locs := by first | (rw [hE]; exact hw) | exact hw
      exact k_zret hC hr hlocks rfl hw [12, 13, 0, 1, 2, 3, 4, 5, 6, 7, 8, 9, 10, 11] rfl rfl ⟨by rw [hE], rfl⟩ (by decide) (by decide) dX12_needsThought_42
  · refine lv_aload_n hx hb dX12_needsThought_7 rfl (lv_at hl 0 rfl) ?_
    refine lv_iconst (v := 1) hx hb dX12_needsThought_8 (by decide) ?_
    refine k_V (wr := (mWa γ z10 z11 z12 z13 z14 z15 z16 z17 z18 z19 z22 z23 a)) 1 gw_1421 gw_1423 gp_58 gw_15 gw_1424 hd_X12_fails hC hw (c_m_fails γ l z z2 z10 z11 z12 z13 z14 z15 z16 z17 z18 z19 z22 z23 z24 z25 z26 z27 z28 z29 z30 z31 z32 z33 z36 z37 z38 z39 z40 z41 z42 z43 z44 z45 z46 z47 z48 z55 z56 z59 z60 z61 n0 n1 n49 n50 n51 n52 n53 n54 n57 n58 n62 n63 n g rs 1 hn) ⟨by decide, by decide⟩ ⟨by decide, by decide⟩ hl.1 rfl 12 rfl rfl rfl (Nat.le_of_ble_eq_true rfl) [12, 13] [0, 1, 2, 3, 4, 5, 6, 7, 8, 9, 10, 11] rfl rfl rfl rfl (by decide) dX12_needsThought_9 (fun r w1 H locs hq hw => ?_)
    obtain ⟨rfl, rfl⟩ := hq
    have hw : kW γ A ((mWa γ z10 z11 z12 z13 z14 z15 z16 z17 z18 z19 z22 z23 a) ++ (mWz γ z z2 z10 z11 z12 z13 z14 z15 z16 z17 z18 z19 z22 z23 z24 z25 z26 z27 z28 z29 z30 z31 z32 z33 z36 z37 z38 z39 z40 z41 z42 z43 z44 z45 z46 z47 z48 z55 z56 z59 z60 z61 n0 n1 n49 n50 n51 n52 n53 n54 n57 n58 n62 n63 g n (F_m_fails g n rs 1))) s H locs := hw
    refine W.eq (g2 := F0 m 12 ls [.int 0]) rfl ?_
    have hE : (F_m_needsThought1 g n rs a) = (0, (F_m_fails g n rs 1)) := by unfold F_m_needsThought1; rw [if_neg c_151]
    have hw : kW γ A ((mWa γ z10 z11 z12 z13 z14 z15 z16 z17 z18 z19 z22 z23 a) ++ (mWz γ z z2 z10 z11 z12 z13 z14 z15 z16 z17 z18 z19 z22 z23 z24 z25 z26 z27 z28 z29 z30 z31 z32 z33 z36 z37 z38 z39 z40 z41 z42 z43 z44 z45 z46 z47 z48 z55 z56 z59 z60 z61 n0 n1 n49 n50 n51 n52 n53 n54 n57 n58 n62 n63 g n ((F_m_needsThought1 g n rs a).2))) s H locs := by first | (rw [hE]; exact hw) | exact hw
    exact k_zret hC hr hlocks rfl hw [12, 13, 0, 1, 2, 3, 4, 5, 6, 7, 8, 9, 10, 11] rfl rfl ⟨by rw [hE], rfl⟩ (by decide) (by decide) dX12_needsThought_12

theorem nt_in {g : Nat → Int32} {n : Nat} {rs : mRS} {a : mAS} (hM : mOK a) (h : ¬ (F_m_needsThought1 g n rs a).1 = 0) : vp_in (8 + (F_m_needsThought1 g n rs a).2.2.2.1) 16 := by
  revert h
  unfold F_m_needsThought1
  split
  · rename_i h1
    split
    · rename_i h2
      intro _
      show vp_in (8 + F_m_thoughtNamed1 g n rs a) 16
      have h0 : 0 ≤ (F_m_thoughtNamed1 g n rs a).toInt := Int32.le_iff_toInt_le.mp h2
      unfold F_m_thoughtNamed1 at h0 ⊢
      rcases pl_in (nm := fun i => a.2.1 (8 + i)) (x := mw g n rs.2.1) ((a.1 5).toNatClampNeg) 0 with e | ⟨j, h3, h4, h5, e⟩
      · rw [e] at h0
        exact absurd h0 (by decide)
      · rw [e]
        have h6 : (a.1 5).toNatClampNeg ≤ 8 := cl_le hM.1.2
        rw [show (8 : Int32) + nI j = nI (8 + j) from nI_add 8 j]
        exact vp_in_nI (by omega) (by decide)
    · intro h9; exact absurd rfl h9
  · intro h9; exact absurd rfl h9


/-! Word.of, by hand -/
theorem dwo_0 : decode cX10_of 0 = .ok (.iconst 0, 1) := by decide +kernel
theorem dwo_1 : decode cX10_of 1 = .ok (.istore_n 2, 1) := by decide +kernel
theorem dwo_2 : decode cX10_of 2 = .ok (.iload_n 2, 1) := by decide +kernel
theorem dwo_3 : decode cX10_of 3 = .ok (.getstatic 127, 3) := by decide +kernel
theorem dwo_6 : decode cX10_of 6 = .ok (.arraylength, 1) := by decide +kernel
theorem dwo_7 : decode cX10_of 7 = .ok (.if_icmp .ge 28, 3) := by decide +kernel
theorem dwo_10 : decode cX10_of 10 = .ok (.getstatic 127, 3) := by decide +kernel
theorem dwo_13 : decode cX10_of 13 = .ok (.iload_n 2, 1) := by decide +kernel
theorem dwo_14 : decode cX10_of 14 = .ok (.aaload, 1) := by decide +kernel
theorem dwo_15 : decode cX10_of 15 = .ok (.getfield 115, 3) := by decide +kernel
theorem dwo_18 : decode cX10_of 18 = .ok (.lload_n 0, 1) := by decide +kernel
theorem dwo_19 : decode cX10_of 19 = .ok (.lcmp, 1) := by decide +kernel
theorem dwo_20 : decode cX10_of 20 = .ok (.ifCond .ne 9, 3) := by decide +kernel
theorem dwo_23 : decode cX10_of 23 = .ok (.getstatic 127, 3) := by decide +kernel
theorem dwo_26 : decode cX10_of 26 = .ok (.iload_n 2, 1) := by decide +kernel
theorem dwo_27 : decode cX10_of 27 = .ok (.aaload, 1) := by decide +kernel
theorem dwo_28 : decode cX10_of 28 = .ok (.areturn, 1) := by decide +kernel
theorem dwo_29 : decode cX10_of 29 = .ok (.iinc 2 1, 3) := by decide +kernel
theorem dwo_32 : decode cX10_of 32 = .ok (.goto (-30), 3) := by decide +kernel
theorem dwo_35 : decode cX10_of 35 = .ok (.getstatic 9, 3) := by decide +kernel
theorem dwo_38 : decode cX10_of 38 = .ok (.areturn, 1) := by decide +kernel
theorem k_aret {γ : kΓ} {p : Program} {l : Launch} {e : Env} {R : Room} {s : State} {m : MethodId} {args : Array Value} {below : List Frame} {meth : Method} {c : Code} {H : Heap} {locs : List Loc} {cells slots : Nat} {cc : ByteArray} {nL pc : Nat} {own C : String} {A : Nat → Prop} {ws : va_W} {ls : Array Slot} {post : Option Value → va_W → Prop} {mc ms : Nat} {w1 : va_W} {a : Nat} (hC : kC γ p s m args c cc nL own A) (hr : meth.sig.returnType = some (.object C)) (hlocks : meth.locks = false) (hw : kW γ A ws s H locs) (is : List Nat) (hn : va_nd is = true) (hs : is.map (fun i => ws[i]?) = w1.map some) (hp : post (some (.ref a)) w1) (hc : cells ≤ mc) (hsl : slots ≤ ms) (hdg : decode cc pc = .ok (.areturn, 1)) :
    W p l e R s m args below meth c H locs cells slots (MQ below (kQ γ A post) args s mc ms A) (F0 m pc ls [.ref a]) :=
  W.widen hc hsl (W.aret hC.1 hC.2.1 hr (.inl ⟨C, rfl⟩) (.inr ⟨a, rfl⟩) (fun t ht hW => k_end (mc := 0) (ms := 0) hw is hn hs hp t ht) hw.2.2.2.2 hdg hlocks)
theorem c_wordOf (γ : kΓ) (l : Launch) : qSem γ l cD (fun _ => True) cMT cn_32 := by
  refine ⟨_, rfl, fun adr ws av hp => ?_⟩
  obtain ⟨p1, p2, p3, p4, p5⟩ := hp
  have hav : ∃ x : Int64, av = [.long x] := by
    match av, p3 with
    | [v], ⟨h1, _⟩ =>
      obtain ⟨x, e, -⟩ := h1.2.1 rfl
      exact ⟨x, by rw [e]⟩
  obtain ⟨x, rfl⟩ := hav
  have hpost : ∀ i, i < 26 → qPost cD γ (fun _ => True) cn_32 adr ws [.long x] (some (.ref (γ.2.2.2.2 i))) ws := by
    intro i hi
    refine ⟨p1, trivial, fun q g a c a' c' _ h1 h2 k _ => ?_, _, List.mem_cons_self, .inr ⟨_, _, rfl, rfl, fun h => absurd h (by decide), fun h => absurd h (by decide), fun _ => ⟨_, rfl, .inl ⟨rfl, i, hi, rfl⟩⟩⟩, fun f hf => ?_, fun f hf => ?_, fun f hf => ?_, fun f hf => ?_⟩
    · rw [h1] at h2; cases h2; rfl
    · cases hf
    · cases hf
    · cases hf
    · cases hf
  refine k_ofW (by decide) (Nat.le_of_ble_eq_true rfl) ?_
  intro p e s m below meth c A ls hC hr hlocks hname hw hl
  have hz := k_zw hC
  obtain ⟨t, ht1, ht2⟩ := hz.2.2.2.2
  have loop : ∀ (d k : Nat) (ls : Array Slot), d + k = 26 → lv_has ls 3 [(2, .int (nI k)), (0, .long x)] → W p l e { frames := 0, cells := 0, slots := 0, locals := 0 } s m [.long x].toArray below meth c s.heap [] 0 0 (MQ below (kQ γ A (qPost cD γ (fun _ => True) cn_32 adr ws [.long x])) [.long x].toArray s 0 0 A) (F0 m 2 ls []) := by
    intro d
    induction d with
    | zero =>
      intro k ls hk hl
      have e0 : k = 26 := by omega
      subst e0
      refine lv_iload_n hC.1 hC.2.1 dwo_2 rfl (lv_at hl 0 rfl) ?_
      refine va_gets hC.1 hC.2.1 ht1 hw.2.2 hC.2.2.2.1 (hC.2.2.2.2.1 _ gw_472) (fun _ h => h) dwo_3 ?_
      refine va_tlen hC.1 hC.2.1 ht2 hw.2.2 rfl dwo_6 ?_
      refine lv_icmp_ge hC.1 hC.2.1 dwo_7 (tgt := 35) rfl (fun _ => ?_) (fun h => absurd h (by decide))
      refine k_word hC hw (n := 1) (by decide) gw_474 dwo_35 ?_
      exact k_aret hC hr hlocks hw (List.range ws.length) (q_nd _) (q_all ws) (hpost 1 (by decide)) (Nat.le_refl _) (Nat.le_refl _) dwo_38
    | succ d ih =>
      intro k ls hk hl
      have hk26 : k < 26 := by omega
      have hki : (nI k).toInt = (k : Int) := nI_toInt (by omega)
      have hkc : (nI k).toNatClampNeg = k := nI_clamp (by omega)
      have hin : vp_in (nI k) 26 := k_in0 ⟨by omega, by omega⟩
      refine lv_iload_n hC.1 hC.2.1 dwo_2 rfl (lv_at hl 0 rfl) ?_
      refine va_gets hC.1 hC.2.1 ht1 hw.2.2 hC.2.2.2.1 (hC.2.2.2.2.1 _ gw_472) (fun _ h => h) dwo_3 ?_
      refine va_tlen hC.1 hC.2.1 ht2 hw.2.2 rfl dwo_6 ?_
      refine lv_icmp_ge hC.1 hC.2.1 dwo_7 (tgt := 35) rfl (fun h => absurd (Int32.le_iff_toInt_le.mp h) (by
        have e26 : (Int32.ofNat 26).toInt = 26 := by decide
        rw [e26, hki]; omega)) (fun _ => ?_)
      refine va_gets hC.1 hC.2.1 ht1 hw.2.2 hC.2.2.2.1 (hC.2.2.2.2.1 _ gw_472) (fun _ h => h) dwo_10 ?_
      refine lv_iload_n hC.1 hC.2.1 dwo_13 rfl (lv_at hl 0 rfl) ?_
      refine vb_tq hC.1 hC.2.1 ht2 hw.2.2 hin (v := .ref (γ.2.2.2.2 k)) (by rw [hkc]) dwo_14 ?_
      refine va_getX hC.1 hC.2.1 hz.2.1 hk26 hw.2.2 hC.2.2.2.1 (hC.2.2.2.2.1 _ gw_1832) (fun _ h => h) dwo_15 ?_
      refine lv_lload_n hC.1 hC.2.1 dwo_18 rfl (lv_at hl 1 rfl) ?_
      refine W.lcmp hC.1 hC.2.1 dwo_19 ?_
      refine lv_if_ne hC.1 hC.2.1 dwo_20 (tgt := 29) rfl (fun _ => ?_) (fun _ => ?_)
      · refine lv_iinc hC.1 hC.2.1 dwo_29 hl (k := 0) rfl rfl (by decide) rfl (fun ls1 hl1 => ?_)
        refine lv_goto hC.1 hC.2.1 dwo_32 (tgt := 2) rfl ?_
        refine ih (k + 1) ls1 (by omega) ?_
        have e1 : nI k + Int32.ofInt 1 = nI (k + 1) := by
          apply Int32.toInt_inj.mp
          rw [q_addT, hki, nI_toInt (by omega), show (Int32.ofInt 1).toInt = 1 by decide, q_bmod (by unfold i32lo; omega) (by unfold i32hi; omega)]
          omega
        rw [e1] at hl1
        exact hl1
      · refine va_gets hC.1 hC.2.1 ht1 hw.2.2 hC.2.2.2.1 (hC.2.2.2.2.1 _ gw_472) (fun _ h => h) dwo_23 ?_
        refine lv_iload_n hC.1 hC.2.1 dwo_26 rfl (lv_at hl 0 rfl) ?_
        refine vb_tq hC.1 hC.2.1 ht2 hw.2.2 hin (v := .ref (γ.2.2.2.2 k)) (by rw [hkc]) dwo_27 ?_
        exact k_aret hC hr hlocks hw (List.range ws.length) (q_nd _) (q_all ws) (hpost k hk26) (Nat.le_refl _) (Nat.le_refl _) dwo_28
  refine lv_iconst hC.1 hC.2.1 dwo_0 (v := 0) rfl ?_
  refine lv_istore_n hC.1 hC.2.1 dwo_1 rfl hl (by decide) rfl (fun ls1 hl1 => ?_)
  exact loop 26 0 ls1 rfl hl1

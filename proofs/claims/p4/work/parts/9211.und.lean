def bU (γ : kΓ) (h : Nat) (r : Option Value) (w1 : va_W) : Prop := r = none ∧ ∃ (a : Nat) (f : Nat → Option Nat) (G : bZ), w1 = [(h, .inr (9, [.ref a, .int 0, .int 0])), (a, .inl (γ.2.1 5, 16, .inr (.inr (.inr (.inr f)))))] ++ G.map Prod.snd ∧ G.map Prod.fst = (List.replicate 16 gs7).flatten ∧ bCl cD γ G ∧ ∀ j, j < 16 → ∃ b c, f j = some b ∧ (30, b, c) ∈ G
theorem b_up {f : Nat → Option Nat} {G Z : bZ} {k b : Nat} {c : va_E} {g : Nat} (hf : ∀ j, j < k → ∃ b c, f j = some b ∧ (g, b, c) ∈ G) (hz : (g, b, c) ∈ Z) : ∀ j, j < k + 1 → ∃ b1 c1, va_up f k (some b) j = some b1 ∧ (g, b1, c1) ∈ Z ++ G := by
  intro j hj
  by_cases h : j = k
  · subst h
    exact ⟨b, c, by simp [va_up], List.mem_append_left _ hz⟩
  · obtain ⟨b1, c1, h1, h2⟩ := hf j (by omega)
    exact ⟨b1, c1, by simp [va_up, h, h1], List.mem_append_right _ h2⟩
theorem dX9_init_0 : decode cX9_init 0 = .ok (.aload_n 0, 1) := by decide +kernel
theorem dX9_init_1 : decode cX9_init 1 = .ok (.invokespecial 3, 3) := by decide +kernel
theorem dX9_init_4 : decode cX9_init 4 = .ok (.aload_n 0, 1) := by decide +kernel
theorem dX9_init_5 : decode cX9_init 5 = .ok (.bipush 16, 2) := by decide +kernel
theorem dX9_init_7 : decode cX9_init 7 = .ok (.anewarray 9, 3) := by decide +kernel
theorem dX9_init_10 : decode cX9_init 10 = .ok (.putfield 11, 3) := by decide +kernel
theorem dX9_init_13 : decode cX9_init 13 = .ok (.iconst 0, 1) := by decide +kernel
theorem dX9_init_14 : decode cX9_init 14 = .ok (.istore_n 1, 1) := by decide +kernel
theorem dX9_init_15 : decode cX9_init 15 = .ok (.iload_n 1, 1) := by decide +kernel
theorem dX9_init_16 : decode cX9_init 16 = .ok (.bipush 16, 2) := by decide +kernel
theorem dX9_init_18 : decode cX9_init 18 = .ok (.if_icmp .ge 22, 3) := by decide +kernel
theorem dX9_init_21 : decode cX9_init 21 = .ok (.aload_n 0, 1) := by decide +kernel
theorem dX9_init_22 : decode cX9_init 22 = .ok (.getfield 11, 3) := by decide +kernel
theorem dX9_init_25 : decode cX9_init 25 = .ok (.iload_n 1, 1) := by decide +kernel
theorem dX9_init_26 : decode cX9_init 26 = .ok (.new 9, 3) := by decide +kernel
theorem dX9_init_29 : decode cX9_init 29 = .ok (.dup, 1) := by decide +kernel
theorem dX9_init_30 : decode cX9_init 30 = .ok (.invokespecial 17, 3) := by decide +kernel
theorem dX9_init_33 : decode cX9_init 33 = .ok (.aastore, 1) := by decide +kernel
theorem dX9_init_34 : decode cX9_init 34 = .ok (.iinc 1 1, 3) := by decide +kernel
theorem dX9_init_37 : decode cX9_init 37 = .ok (.goto (-22), 3) := by decide +kernel
theorem dX9_init_40 : decode cX9_init 40 = .ok (.return_, 1) := by decide +kernel
set_option maxHeartbeats 4000000 in
set_option maxRecDepth 100000 in
theorem b_X9 (γ : kΓ) (l : Launch) (h : Nat) : kM γ l yX9_init cX9_init 2 none ({ frames := 3, cells := 113, slots := 1248, locals := 64 } : Room) [.ref h] [(h, .inr (9, [.null, .int 0, .int 0]))] (bU γ h) := by
  refine k_ofW (by decide) (Nat.le_of_ble_eq_true rfl) ?_
  intro p e s m below meth c A ls hC hr hlocks hname hw hl
  have hx := hC.1
  have hb := hC.2.1
  have hin : meth.name = "<init>" := hname
  have hl : lv_has ls 2 [(0, .ref h)] := hl
  refine lv_aload_n hx hb dX9_init_0 rfl (lv_at hl 0 rfl) ?_
  refine k_objInit hC gw_76 hl.1 (by decide) (Nat.le_of_ble_eq_true rfl) dX9_init_1 ?_
  refine W.eq (g2 := F0 m 4 ls []) rfl ?_
  refine lv_aload_n hx hb dX9_init_4 rfl (lv_at hl 0 rfl) ?_
  refine lv_bipush (v := 16) hx hb dX9_init_5 (by decide) ?_
  refine k_newq (N' := 16) hC hw gw_77 nw_78 5 rfl (by decide) (by decide) (by decide) (by decide) (by decide) dX9_init_7 (fun a H hw => ?_)
  have hw : kW γ A [(h, .inr (9, [.null, .int 0, .int 0])), (a, .inl (γ.2.1 5, 16, .inr (.inr (.inr (.inr (fun _ => none))))))] s H [] := hw
  refine W.widen (k := 1) (n := 16) (by decide) (by decide) ?_
  refine fs_RX9_11 hC hw hin 0 rfl rfl rfl (Nat.le_of_ble_eq_true rfl) dX9_init_10 (fun H locs hw => ?_)
  have hw : kW γ A ([(h, .inr (9, [.ref a, .int 0, .int 0])), (a, .inl (γ.2.1 5, 16, .inr (.inr (.inr (.inr (fun _ => none))))))] ++ (([] : bZ).map Prod.snd)) s H locs := hw
  have hf0 : ∀ j, j < 0 → ∃ b c, (fun _ => none : Nat → Option Nat) j = some b ∧ (30, b, c) ∈ ([] : bZ) := fun j hj => absurd hj (Nat.not_lt_zero j)
  have hc0 : bCl cD γ [] := bCl.nil
  have hg0 : ([] : bZ).map Prod.fst = (List.replicate 0 gs7).flatten := rfl
  generalize (fun _ => none : Nat → Option Nat) = f0 at hw hf0
  generalize ([] : bZ) = G0 at hw hf0 hc0 hg0
  refine lv_iconst (v := 0) hx hb dX9_init_13 (by decide) ?_
  refine lv_istore_n (lv' := [(1, .int 0), (0, .ref h)]) hx hb dX9_init_14 rfl hl (by decide) rfl (fun ls hl => ?_)
  refine lv_iload_n hx hb dX9_init_15 rfl (lv_at hl 0 rfl) ?_
  refine lv_bipush (v := 16) hx hb dX9_init_16 (by decide) ?_
  refine lv_icmp_ge (tgt := 40) hx hb dX9_init_18 (by decide) (fun h => absurd h (by decide)) (fun _ => ?_)
  refine lv_aload_n hx hb dX9_init_21 rfl (lv_at hl 1 rfl) ?_
  refine fg_RX9_11 hC hw 0 rfl rfl dX9_init_22 ?_
  refine lv_iload_n hx hb dX9_init_25 rfl (lv_at hl 0 rfl) ?_
  refine k_new (ci := 7) hC hw in_RX7 tyX7 tyX7_ok gw_77 gw_79 gw_6 rfl nf_RX7 (by decide) (by decide) dX9_init_26 (fun q0 H hw => ?_)
  refine W.widen (k := 2) (n := 25) (by decide) (by decide) ?_
  refine lv_dup hx hb dX9_init_29 rfl ?_
  refine b_I 0 gw_80 gw_81 gw_6 gw_82 rfl hd_X7_init hC hw (b_X7 γ l q0) ⟨by decide, by decide⟩ ⟨by decide, by decide⟩ hl.1 rfl rfl (Nat.le_of_ble_eq_true rfl) dX9_init_30 (fun r w1 H locs hq hw => ?_)
  obtain ⟨rfl, Z, fs, Z2, rfl, hgz, hcz, hz⟩ := hq
  have hw := hw.perm b_pm
  rw [← List.map_append] at hw
  refine W.eq (g2 := F0 m 33 ls [.ref q0, .int 0, .ref a]) rfl ?_
  refine W.widen (k := 8) (n := 93) (by decide) (by decide) ?_
  have hz1 : (30, q0, .inr (7, fs)) ∈ Z := by rw [hz]; exact List.mem_cons_self
  have hpos : ([(h, .inr (9, [.ref a, .int 0, .int 0])), (a, .inl (γ.2.1 5, 16, .inr (.inr (.inr (.inr f0)))))] ++ (Z ++ G0).map Prod.snd : va_W)[2]? = some (q0, .inr (7, fs)) := by rw [hz]; rfl
  refine k_astq hC hw 1 5 2 7 rfl rfl hpos rfl (k_in0 (by decide)) dX9_init_33 (fun H locs hw => ?_)
  have hf1 := b_up hf0 hz1
  have hc1 := hcz.app hc0
  have hg1 : (Z ++ G0).map Prod.fst = (List.replicate 1 gs7).flatten := by rw [List.map_append, hgz, hg0]; rfl
  have hw : kW γ A ([(h, .inr (9, [.ref a, .int 0, .int 0])), (a, .inl (γ.2.1 5, 16, .inr (.inr (.inr (.inr (va_up f0 0 (some q0))))))) ] ++ (Z ++ G0).map Prod.snd) s H locs := hw
  generalize va_up f0 0 (some q0) = f1 at hw hf1
  generalize Z ++ G0 = G1 at hw hf1 hc1 hg1
  clear hf0 hc0 hg0 hpos hz1 hz hgz hcz
  refine lv_iinc (v := 1) (lv' := [(1, .int 1), (0, .ref h)]) hx hb dX9_init_34 hl (k := 0) rfl (by decide) (by decide) rfl (fun ls hl => ?_)
  refine lv_goto (tgt := 15) hx hb dX9_init_37 (by decide) ?_
  refine lv_iload_n hx hb dX9_init_15 rfl (lv_at hl 0 rfl) ?_
  refine lv_bipush (v := 16) hx hb dX9_init_16 (by decide) ?_
  refine lv_icmp_ge (tgt := 40) hx hb dX9_init_18 (by decide) (fun h => absurd h (by decide)) (fun _ => ?_)
  refine lv_aload_n hx hb dX9_init_21 rfl (lv_at hl 1 rfl) ?_
  refine fg_RX9_11 hC hw 0 rfl rfl dX9_init_22 ?_
  refine lv_iload_n hx hb dX9_init_25 rfl (lv_at hl 0 rfl) ?_
  refine k_new (ci := 7) hC hw in_RX7 tyX7 tyX7_ok gw_77 gw_79 gw_6 rfl nf_RX7 (by decide) (by decide) dX9_init_26 (fun q1 H hw => ?_)
  refine W.widen (k := 9) (n := 102) (by decide) (by decide) ?_
  refine lv_dup hx hb dX9_init_29 rfl ?_
  refine b_I 0 gw_80 gw_81 gw_6 gw_82 rfl hd_X7_init hC hw (b_X7 γ l q1) ⟨by decide, by decide⟩ ⟨by decide, by decide⟩ hl.1 rfl rfl (Nat.le_of_ble_eq_true rfl) dX9_init_30 (fun r w1 H locs hq hw => ?_)
  obtain ⟨rfl, Z, fs, Z2, rfl, hgz, hcz, hz⟩ := hq
  have hw := hw.perm b_pm
  rw [← List.map_append] at hw
  refine W.eq (g2 := F0 m 33 ls [.ref q1, .int 1, .ref a]) rfl ?_
  refine W.widen (k := 15) (n := 170) (by decide) (by decide) ?_
  have hz1 : (30, q1, .inr (7, fs)) ∈ Z := by rw [hz]; exact List.mem_cons_self
  have hpos : ([(h, .inr (9, [.ref a, .int 0, .int 0])), (a, .inl (γ.2.1 5, 16, .inr (.inr (.inr (.inr f1)))))] ++ (Z ++ G1).map Prod.snd : va_W)[2]? = some (q1, .inr (7, fs)) := by rw [hz]; rfl
  refine k_astq hC hw 1 5 2 7 rfl rfl hpos rfl (k_in0 (by decide)) dX9_init_33 (fun H locs hw => ?_)
  have hf2 := b_up hf1 hz1
  have hc2 := hcz.app hc1
  have hg2 : (Z ++ G1).map Prod.fst = (List.replicate 2 gs7).flatten := by rw [List.map_append, hgz, hg1]; rfl
  have hw : kW γ A ([(h, .inr (9, [.ref a, .int 0, .int 0])), (a, .inl (γ.2.1 5, 16, .inr (.inr (.inr (.inr (va_up f1 1 (some q1))))))) ] ++ (Z ++ G1).map Prod.snd) s H locs := hw
  generalize va_up f1 1 (some q1) = f2 at hw hf2
  generalize Z ++ G1 = G2 at hw hf2 hc2 hg2
  clear hf1 hc1 hg1 hpos hz1 hz hgz hcz
  refine lv_iinc (v := 2) (lv' := [(1, .int 2), (0, .ref h)]) hx hb dX9_init_34 hl (k := 0) rfl (by decide) (by decide) rfl (fun ls hl => ?_)
  refine lv_goto (tgt := 15) hx hb dX9_init_37 (by decide) ?_
  refine lv_iload_n hx hb dX9_init_15 rfl (lv_at hl 0 rfl) ?_
  refine lv_bipush (v := 16) hx hb dX9_init_16 (by decide) ?_
  refine lv_icmp_ge (tgt := 40) hx hb dX9_init_18 (by decide) (fun h => absurd h (by decide)) (fun _ => ?_)
  refine lv_aload_n hx hb dX9_init_21 rfl (lv_at hl 1 rfl) ?_
  refine fg_RX9_11 hC hw 0 rfl rfl dX9_init_22 ?_
  refine lv_iload_n hx hb dX9_init_25 rfl (lv_at hl 0 rfl) ?_
  refine k_new (ci := 7) hC hw in_RX7 tyX7 tyX7_ok gw_77 gw_79 gw_6 rfl nf_RX7 (by decide) (by decide) dX9_init_26 (fun q2 H hw => ?_)
  refine W.widen (k := 16) (n := 179) (by decide) (by decide) ?_
  refine lv_dup hx hb dX9_init_29 rfl ?_
  refine b_I 0 gw_80 gw_81 gw_6 gw_82 rfl hd_X7_init hC hw (b_X7 γ l q2) ⟨by decide, by decide⟩ ⟨by decide, by decide⟩ hl.1 rfl rfl (Nat.le_of_ble_eq_true rfl) dX9_init_30 (fun r w1 H locs hq hw => ?_)
  obtain ⟨rfl, Z, fs, Z2, rfl, hgz, hcz, hz⟩ := hq
  have hw := hw.perm b_pm
  rw [← List.map_append] at hw
  refine W.eq (g2 := F0 m 33 ls [.ref q2, .int 2, .ref a]) rfl ?_
  refine W.widen (k := 22) (n := 247) (by decide) (by decide) ?_
  have hz1 : (30, q2, .inr (7, fs)) ∈ Z := by rw [hz]; exact List.mem_cons_self
  have hpos : ([(h, .inr (9, [.ref a, .int 0, .int 0])), (a, .inl (γ.2.1 5, 16, .inr (.inr (.inr (.inr f2)))))] ++ (Z ++ G2).map Prod.snd : va_W)[2]? = some (q2, .inr (7, fs)) := by rw [hz]; rfl
  refine k_astq hC hw 1 5 2 7 rfl rfl hpos rfl (k_in0 (by decide)) dX9_init_33 (fun H locs hw => ?_)
  have hf3 := b_up hf2 hz1
  have hc3 := hcz.app hc2
  have hg3 : (Z ++ G2).map Prod.fst = (List.replicate 3 gs7).flatten := by rw [List.map_append, hgz, hg2]; rfl
  have hw : kW γ A ([(h, .inr (9, [.ref a, .int 0, .int 0])), (a, .inl (γ.2.1 5, 16, .inr (.inr (.inr (.inr (va_up f2 2 (some q2))))))) ] ++ (Z ++ G2).map Prod.snd) s H locs := hw
  generalize va_up f2 2 (some q2) = f3 at hw hf3
  generalize Z ++ G2 = G3 at hw hf3 hc3 hg3
  clear hf2 hc2 hg2 hpos hz1 hz hgz hcz
  refine lv_iinc (v := 3) (lv' := [(1, .int 3), (0, .ref h)]) hx hb dX9_init_34 hl (k := 0) rfl (by decide) (by decide) rfl (fun ls hl => ?_)
  refine lv_goto (tgt := 15) hx hb dX9_init_37 (by decide) ?_
  refine lv_iload_n hx hb dX9_init_15 rfl (lv_at hl 0 rfl) ?_
  refine lv_bipush (v := 16) hx hb dX9_init_16 (by decide) ?_
  refine lv_icmp_ge (tgt := 40) hx hb dX9_init_18 (by decide) (fun h => absurd h (by decide)) (fun _ => ?_)
  refine lv_aload_n hx hb dX9_init_21 rfl (lv_at hl 1 rfl) ?_
  refine fg_RX9_11 hC hw 0 rfl rfl dX9_init_22 ?_
  refine lv_iload_n hx hb dX9_init_25 rfl (lv_at hl 0 rfl) ?_
  refine k_new (ci := 7) hC hw in_RX7 tyX7 tyX7_ok gw_77 gw_79 gw_6 rfl nf_RX7 (by decide) (by decide) dX9_init_26 (fun q3 H hw => ?_)
  refine W.widen (k := 23) (n := 256) (by decide) (by decide) ?_
  refine lv_dup hx hb dX9_init_29 rfl ?_
  refine b_I 0 gw_80 gw_81 gw_6 gw_82 rfl hd_X7_init hC hw (b_X7 γ l q3) ⟨by decide, by decide⟩ ⟨by decide, by decide⟩ hl.1 rfl rfl (Nat.le_of_ble_eq_true rfl) dX9_init_30 (fun r w1 H locs hq hw => ?_)
  obtain ⟨rfl, Z, fs, Z2, rfl, hgz, hcz, hz⟩ := hq
  have hw := hw.perm b_pm
  rw [← List.map_append] at hw
  refine W.eq (g2 := F0 m 33 ls [.ref q3, .int 3, .ref a]) rfl ?_
  refine W.widen (k := 29) (n := 324) (by decide) (by decide) ?_
  have hz1 : (30, q3, .inr (7, fs)) ∈ Z := by rw [hz]; exact List.mem_cons_self
  have hpos : ([(h, .inr (9, [.ref a, .int 0, .int 0])), (a, .inl (γ.2.1 5, 16, .inr (.inr (.inr (.inr f3)))))] ++ (Z ++ G3).map Prod.snd : va_W)[2]? = some (q3, .inr (7, fs)) := by rw [hz]; rfl
  refine k_astq hC hw 1 5 2 7 rfl rfl hpos rfl (k_in0 (by decide)) dX9_init_33 (fun H locs hw => ?_)
  have hf4 := b_up hf3 hz1
  have hc4 := hcz.app hc3
  have hg4 : (Z ++ G3).map Prod.fst = (List.replicate 4 gs7).flatten := by rw [List.map_append, hgz, hg3]; rfl
  have hw : kW γ A ([(h, .inr (9, [.ref a, .int 0, .int 0])), (a, .inl (γ.2.1 5, 16, .inr (.inr (.inr (.inr (va_up f3 3 (some q3))))))) ] ++ (Z ++ G3).map Prod.snd) s H locs := hw
  generalize va_up f3 3 (some q3) = f4 at hw hf4
  generalize Z ++ G3 = G4 at hw hf4 hc4 hg4
  clear hf3 hc3 hg3 hpos hz1 hz hgz hcz
  refine lv_iinc (v := 4) (lv' := [(1, .int 4), (0, .ref h)]) hx hb dX9_init_34 hl (k := 0) rfl (by decide) (by decide) rfl (fun ls hl => ?_)
  refine lv_goto (tgt := 15) hx hb dX9_init_37 (by decide) ?_
  refine lv_iload_n hx hb dX9_init_15 rfl (lv_at hl 0 rfl) ?_
  refine lv_bipush (v := 16) hx hb dX9_init_16 (by decide) ?_
  refine lv_icmp_ge (tgt := 40) hx hb dX9_init_18 (by decide) (fun h => absurd h (by decide)) (fun _ => ?_)
  refine lv_aload_n hx hb dX9_init_21 rfl (lv_at hl 1 rfl) ?_
  refine fg_RX9_11 hC hw 0 rfl rfl dX9_init_22 ?_
  refine lv_iload_n hx hb dX9_init_25 rfl (lv_at hl 0 rfl) ?_
  refine k_new (ci := 7) hC hw in_RX7 tyX7 tyX7_ok gw_77 gw_79 gw_6 rfl nf_RX7 (by decide) (by decide) dX9_init_26 (fun q4 H hw => ?_)
  refine W.widen (k := 30) (n := 333) (by decide) (by decide) ?_
  refine lv_dup hx hb dX9_init_29 rfl ?_
  refine b_I 0 gw_80 gw_81 gw_6 gw_82 rfl hd_X7_init hC hw (b_X7 γ l q4) ⟨by decide, by decide⟩ ⟨by decide, by decide⟩ hl.1 rfl rfl (Nat.le_of_ble_eq_true rfl) dX9_init_30 (fun r w1 H locs hq hw => ?_)
  obtain ⟨rfl, Z, fs, Z2, rfl, hgz, hcz, hz⟩ := hq
  have hw := hw.perm b_pm
  rw [← List.map_append] at hw
  refine W.eq (g2 := F0 m 33 ls [.ref q4, .int 4, .ref a]) rfl ?_
  refine W.widen (k := 36) (n := 401) (by decide) (by decide) ?_
  have hz1 : (30, q4, .inr (7, fs)) ∈ Z := by rw [hz]; exact List.mem_cons_self
  have hpos : ([(h, .inr (9, [.ref a, .int 0, .int 0])), (a, .inl (γ.2.1 5, 16, .inr (.inr (.inr (.inr f4)))))] ++ (Z ++ G4).map Prod.snd : va_W)[2]? = some (q4, .inr (7, fs)) := by rw [hz]; rfl
  refine k_astq hC hw 1 5 2 7 rfl rfl hpos rfl (k_in0 (by decide)) dX9_init_33 (fun H locs hw => ?_)
  have hf5 := b_up hf4 hz1
  have hc5 := hcz.app hc4
  have hg5 : (Z ++ G4).map Prod.fst = (List.replicate 5 gs7).flatten := by rw [List.map_append, hgz, hg4]; rfl
  have hw : kW γ A ([(h, .inr (9, [.ref a, .int 0, .int 0])), (a, .inl (γ.2.1 5, 16, .inr (.inr (.inr (.inr (va_up f4 4 (some q4))))))) ] ++ (Z ++ G4).map Prod.snd) s H locs := hw
  generalize va_up f4 4 (some q4) = f5 at hw hf5
  generalize Z ++ G4 = G5 at hw hf5 hc5 hg5
  clear hf4 hc4 hg4 hpos hz1 hz hgz hcz
  refine lv_iinc (v := 5) (lv' := [(1, .int 5), (0, .ref h)]) hx hb dX9_init_34 hl (k := 0) rfl (by decide) (by decide) rfl (fun ls hl => ?_)
  refine lv_goto (tgt := 15) hx hb dX9_init_37 (by decide) ?_
  refine lv_iload_n hx hb dX9_init_15 rfl (lv_at hl 0 rfl) ?_
  refine lv_bipush (v := 16) hx hb dX9_init_16 (by decide) ?_
  refine lv_icmp_ge (tgt := 40) hx hb dX9_init_18 (by decide) (fun h => absurd h (by decide)) (fun _ => ?_)
  refine lv_aload_n hx hb dX9_init_21 rfl (lv_at hl 1 rfl) ?_
  refine fg_RX9_11 hC hw 0 rfl rfl dX9_init_22 ?_
  refine lv_iload_n hx hb dX9_init_25 rfl (lv_at hl 0 rfl) ?_
  refine k_new (ci := 7) hC hw in_RX7 tyX7 tyX7_ok gw_77 gw_79 gw_6 rfl nf_RX7 (by decide) (by decide) dX9_init_26 (fun q5 H hw => ?_)
  refine W.widen (k := 37) (n := 410) (by decide) (by decide) ?_
  refine lv_dup hx hb dX9_init_29 rfl ?_
  refine b_I 0 gw_80 gw_81 gw_6 gw_82 rfl hd_X7_init hC hw (b_X7 γ l q5) ⟨by decide, by decide⟩ ⟨by decide, by decide⟩ hl.1 rfl rfl (Nat.le_of_ble_eq_true rfl) dX9_init_30 (fun r w1 H locs hq hw => ?_)
  obtain ⟨rfl, Z, fs, Z2, rfl, hgz, hcz, hz⟩ := hq
  have hw := hw.perm b_pm
  rw [← List.map_append] at hw
  refine W.eq (g2 := F0 m 33 ls [.ref q5, .int 5, .ref a]) rfl ?_
  refine W.widen (k := 43) (n := 478) (by decide) (by decide) ?_
  have hz1 : (30, q5, .inr (7, fs)) ∈ Z := by rw [hz]; exact List.mem_cons_self
  have hpos : ([(h, .inr (9, [.ref a, .int 0, .int 0])), (a, .inl (γ.2.1 5, 16, .inr (.inr (.inr (.inr f5)))))] ++ (Z ++ G5).map Prod.snd : va_W)[2]? = some (q5, .inr (7, fs)) := by rw [hz]; rfl
  refine k_astq hC hw 1 5 2 7 rfl rfl hpos rfl (k_in0 (by decide)) dX9_init_33 (fun H locs hw => ?_)
  have hf6 := b_up hf5 hz1
  have hc6 := hcz.app hc5
  have hg6 : (Z ++ G5).map Prod.fst = (List.replicate 6 gs7).flatten := by rw [List.map_append, hgz, hg5]; rfl
  have hw : kW γ A ([(h, .inr (9, [.ref a, .int 0, .int 0])), (a, .inl (γ.2.1 5, 16, .inr (.inr (.inr (.inr (va_up f5 5 (some q5))))))) ] ++ (Z ++ G5).map Prod.snd) s H locs := hw
  generalize va_up f5 5 (some q5) = f6 at hw hf6
  generalize Z ++ G5 = G6 at hw hf6 hc6 hg6
  clear hf5 hc5 hg5 hpos hz1 hz hgz hcz
  refine lv_iinc (v := 6) (lv' := [(1, .int 6), (0, .ref h)]) hx hb dX9_init_34 hl (k := 0) rfl (by decide) (by decide) rfl (fun ls hl => ?_)
  refine lv_goto (tgt := 15) hx hb dX9_init_37 (by decide) ?_
  refine lv_iload_n hx hb dX9_init_15 rfl (lv_at hl 0 rfl) ?_
  refine lv_bipush (v := 16) hx hb dX9_init_16 (by decide) ?_
  refine lv_icmp_ge (tgt := 40) hx hb dX9_init_18 (by decide) (fun h => absurd h (by decide)) (fun _ => ?_)
  refine lv_aload_n hx hb dX9_init_21 rfl (lv_at hl 1 rfl) ?_
  refine fg_RX9_11 hC hw 0 rfl rfl dX9_init_22 ?_
  refine lv_iload_n hx hb dX9_init_25 rfl (lv_at hl 0 rfl) ?_
  refine k_new (ci := 7) hC hw in_RX7 tyX7 tyX7_ok gw_77 gw_79 gw_6 rfl nf_RX7 (by decide) (by decide) dX9_init_26 (fun q6 H hw => ?_)
  refine W.widen (k := 44) (n := 487) (by decide) (by decide) ?_
  refine lv_dup hx hb dX9_init_29 rfl ?_
  refine b_I 0 gw_80 gw_81 gw_6 gw_82 rfl hd_X7_init hC hw (b_X7 γ l q6) ⟨by decide, by decide⟩ ⟨by decide, by decide⟩ hl.1 rfl rfl (Nat.le_of_ble_eq_true rfl) dX9_init_30 (fun r w1 H locs hq hw => ?_)
  obtain ⟨rfl, Z, fs, Z2, rfl, hgz, hcz, hz⟩ := hq
  have hw := hw.perm b_pm
  rw [← List.map_append] at hw
  refine W.eq (g2 := F0 m 33 ls [.ref q6, .int 6, .ref a]) rfl ?_
  refine W.widen (k := 50) (n := 555) (by decide) (by decide) ?_
  have hz1 : (30, q6, .inr (7, fs)) ∈ Z := by rw [hz]; exact List.mem_cons_self
  have hpos : ([(h, .inr (9, [.ref a, .int 0, .int 0])), (a, .inl (γ.2.1 5, 16, .inr (.inr (.inr (.inr f6)))))] ++ (Z ++ G6).map Prod.snd : va_W)[2]? = some (q6, .inr (7, fs)) := by rw [hz]; rfl
  refine k_astq hC hw 1 5 2 7 rfl rfl hpos rfl (k_in0 (by decide)) dX9_init_33 (fun H locs hw => ?_)
  have hf7 := b_up hf6 hz1
  have hc7 := hcz.app hc6
  have hg7 : (Z ++ G6).map Prod.fst = (List.replicate 7 gs7).flatten := by rw [List.map_append, hgz, hg6]; rfl
  have hw : kW γ A ([(h, .inr (9, [.ref a, .int 0, .int 0])), (a, .inl (γ.2.1 5, 16, .inr (.inr (.inr (.inr (va_up f6 6 (some q6))))))) ] ++ (Z ++ G6).map Prod.snd) s H locs := hw
  generalize va_up f6 6 (some q6) = f7 at hw hf7
  generalize Z ++ G6 = G7 at hw hf7 hc7 hg7
  clear hf6 hc6 hg6 hpos hz1 hz hgz hcz
  refine lv_iinc (v := 7) (lv' := [(1, .int 7), (0, .ref h)]) hx hb dX9_init_34 hl (k := 0) rfl (by decide) (by decide) rfl (fun ls hl => ?_)
  refine lv_goto (tgt := 15) hx hb dX9_init_37 (by decide) ?_
  refine lv_iload_n hx hb dX9_init_15 rfl (lv_at hl 0 rfl) ?_
  refine lv_bipush (v := 16) hx hb dX9_init_16 (by decide) ?_
  refine lv_icmp_ge (tgt := 40) hx hb dX9_init_18 (by decide) (fun h => absurd h (by decide)) (fun _ => ?_)
  refine lv_aload_n hx hb dX9_init_21 rfl (lv_at hl 1 rfl) ?_
  refine fg_RX9_11 hC hw 0 rfl rfl dX9_init_22 ?_
  refine lv_iload_n hx hb dX9_init_25 rfl (lv_at hl 0 rfl) ?_
  refine k_new (ci := 7) hC hw in_RX7 tyX7 tyX7_ok gw_77 gw_79 gw_6 rfl nf_RX7 (by decide) (by decide) dX9_init_26 (fun q7 H hw => ?_)
  refine W.widen (k := 51) (n := 564) (by decide) (by decide) ?_
  refine lv_dup hx hb dX9_init_29 rfl ?_
  refine b_I 0 gw_80 gw_81 gw_6 gw_82 rfl hd_X7_init hC hw (b_X7 γ l q7) ⟨by decide, by decide⟩ ⟨by decide, by decide⟩ hl.1 rfl rfl (Nat.le_of_ble_eq_true rfl) dX9_init_30 (fun r w1 H locs hq hw => ?_)
  obtain ⟨rfl, Z, fs, Z2, rfl, hgz, hcz, hz⟩ := hq
  have hw := hw.perm b_pm
  rw [← List.map_append] at hw
  refine W.eq (g2 := F0 m 33 ls [.ref q7, .int 7, .ref a]) rfl ?_
  refine W.widen (k := 57) (n := 632) (by decide) (by decide) ?_
  have hz1 : (30, q7, .inr (7, fs)) ∈ Z := by rw [hz]; exact List.mem_cons_self
  have hpos : ([(h, .inr (9, [.ref a, .int 0, .int 0])), (a, .inl (γ.2.1 5, 16, .inr (.inr (.inr (.inr f7)))))] ++ (Z ++ G7).map Prod.snd : va_W)[2]? = some (q7, .inr (7, fs)) := by rw [hz]; rfl
  refine k_astq hC hw 1 5 2 7 rfl rfl hpos rfl (k_in0 (by decide)) dX9_init_33 (fun H locs hw => ?_)
  have hf8 := b_up hf7 hz1
  have hc8 := hcz.app hc7
  have hg8 : (Z ++ G7).map Prod.fst = (List.replicate 8 gs7).flatten := by rw [List.map_append, hgz, hg7]; rfl
  have hw : kW γ A ([(h, .inr (9, [.ref a, .int 0, .int 0])), (a, .inl (γ.2.1 5, 16, .inr (.inr (.inr (.inr (va_up f7 7 (some q7))))))) ] ++ (Z ++ G7).map Prod.snd) s H locs := hw
  generalize va_up f7 7 (some q7) = f8 at hw hf8
  generalize Z ++ G7 = G8 at hw hf8 hc8 hg8
  clear hf7 hc7 hg7 hpos hz1 hz hgz hcz
  refine lv_iinc (v := 8) (lv' := [(1, .int 8), (0, .ref h)]) hx hb dX9_init_34 hl (k := 0) rfl (by decide) (by decide) rfl (fun ls hl => ?_)
  refine lv_goto (tgt := 15) hx hb dX9_init_37 (by decide) ?_
  refine lv_iload_n hx hb dX9_init_15 rfl (lv_at hl 0 rfl) ?_
  refine lv_bipush (v := 16) hx hb dX9_init_16 (by decide) ?_
  refine lv_icmp_ge (tgt := 40) hx hb dX9_init_18 (by decide) (fun h => absurd h (by decide)) (fun _ => ?_)
  refine lv_aload_n hx hb dX9_init_21 rfl (lv_at hl 1 rfl) ?_
  refine fg_RX9_11 hC hw 0 rfl rfl dX9_init_22 ?_
  refine lv_iload_n hx hb dX9_init_25 rfl (lv_at hl 0 rfl) ?_
  refine k_new (ci := 7) hC hw in_RX7 tyX7 tyX7_ok gw_77 gw_79 gw_6 rfl nf_RX7 (by decide) (by decide) dX9_init_26 (fun q8 H hw => ?_)
  refine W.widen (k := 58) (n := 641) (by decide) (by decide) ?_
  refine lv_dup hx hb dX9_init_29 rfl ?_
  refine b_I 0 gw_80 gw_81 gw_6 gw_82 rfl hd_X7_init hC hw (b_X7 γ l q8) ⟨by decide, by decide⟩ ⟨by decide, by decide⟩ hl.1 rfl rfl (Nat.le_of_ble_eq_true rfl) dX9_init_30 (fun r w1 H locs hq hw => ?_)
  obtain ⟨rfl, Z, fs, Z2, rfl, hgz, hcz, hz⟩ := hq
  have hw := hw.perm b_pm
  rw [← List.map_append] at hw
  refine W.eq (g2 := F0 m 33 ls [.ref q8, .int 8, .ref a]) rfl ?_
  refine W.widen (k := 64) (n := 709) (by decide) (by decide) ?_
  have hz1 : (30, q8, .inr (7, fs)) ∈ Z := by rw [hz]; exact List.mem_cons_self
  have hpos : ([(h, .inr (9, [.ref a, .int 0, .int 0])), (a, .inl (γ.2.1 5, 16, .inr (.inr (.inr (.inr f8)))))] ++ (Z ++ G8).map Prod.snd : va_W)[2]? = some (q8, .inr (7, fs)) := by rw [hz]; rfl
  refine k_astq hC hw 1 5 2 7 rfl rfl hpos rfl (k_in0 (by decide)) dX9_init_33 (fun H locs hw => ?_)
  have hf9 := b_up hf8 hz1
  have hc9 := hcz.app hc8
  have hg9 : (Z ++ G8).map Prod.fst = (List.replicate 9 gs7).flatten := by rw [List.map_append, hgz, hg8]; rfl
  have hw : kW γ A ([(h, .inr (9, [.ref a, .int 0, .int 0])), (a, .inl (γ.2.1 5, 16, .inr (.inr (.inr (.inr (va_up f8 8 (some q8))))))) ] ++ (Z ++ G8).map Prod.snd) s H locs := hw
  generalize va_up f8 8 (some q8) = f9 at hw hf9
  generalize Z ++ G8 = G9 at hw hf9 hc9 hg9
  clear hf8 hc8 hg8 hpos hz1 hz hgz hcz
  refine lv_iinc (v := 9) (lv' := [(1, .int 9), (0, .ref h)]) hx hb dX9_init_34 hl (k := 0) rfl (by decide) (by decide) rfl (fun ls hl => ?_)
  refine lv_goto (tgt := 15) hx hb dX9_init_37 (by decide) ?_
  refine lv_iload_n hx hb dX9_init_15 rfl (lv_at hl 0 rfl) ?_
  refine lv_bipush (v := 16) hx hb dX9_init_16 (by decide) ?_
  refine lv_icmp_ge (tgt := 40) hx hb dX9_init_18 (by decide) (fun h => absurd h (by decide)) (fun _ => ?_)
  refine lv_aload_n hx hb dX9_init_21 rfl (lv_at hl 1 rfl) ?_
  refine fg_RX9_11 hC hw 0 rfl rfl dX9_init_22 ?_
  refine lv_iload_n hx hb dX9_init_25 rfl (lv_at hl 0 rfl) ?_
  refine k_new (ci := 7) hC hw in_RX7 tyX7 tyX7_ok gw_77 gw_79 gw_6 rfl nf_RX7 (by decide) (by decide) dX9_init_26 (fun q9 H hw => ?_)
  refine W.widen (k := 65) (n := 718) (by decide) (by decide) ?_
  refine lv_dup hx hb dX9_init_29 rfl ?_
  refine b_I 0 gw_80 gw_81 gw_6 gw_82 rfl hd_X7_init hC hw (b_X7 γ l q9) ⟨by decide, by decide⟩ ⟨by decide, by decide⟩ hl.1 rfl rfl (Nat.le_of_ble_eq_true rfl) dX9_init_30 (fun r w1 H locs hq hw => ?_)
  obtain ⟨rfl, Z, fs, Z2, rfl, hgz, hcz, hz⟩ := hq
  have hw := hw.perm b_pm
  rw [← List.map_append] at hw
  refine W.eq (g2 := F0 m 33 ls [.ref q9, .int 9, .ref a]) rfl ?_
  refine W.widen (k := 71) (n := 786) (by decide) (by decide) ?_
  have hz1 : (30, q9, .inr (7, fs)) ∈ Z := by rw [hz]; exact List.mem_cons_self
  have hpos : ([(h, .inr (9, [.ref a, .int 0, .int 0])), (a, .inl (γ.2.1 5, 16, .inr (.inr (.inr (.inr f9)))))] ++ (Z ++ G9).map Prod.snd : va_W)[2]? = some (q9, .inr (7, fs)) := by rw [hz]; rfl
  refine k_astq hC hw 1 5 2 7 rfl rfl hpos rfl (k_in0 (by decide)) dX9_init_33 (fun H locs hw => ?_)
  have hf10 := b_up hf9 hz1
  have hc10 := hcz.app hc9
  have hg10 : (Z ++ G9).map Prod.fst = (List.replicate 10 gs7).flatten := by rw [List.map_append, hgz, hg9]; rfl
  have hw : kW γ A ([(h, .inr (9, [.ref a, .int 0, .int 0])), (a, .inl (γ.2.1 5, 16, .inr (.inr (.inr (.inr (va_up f9 9 (some q9))))))) ] ++ (Z ++ G9).map Prod.snd) s H locs := hw
  generalize va_up f9 9 (some q9) = f10 at hw hf10
  generalize Z ++ G9 = G10 at hw hf10 hc10 hg10
  clear hf9 hc9 hg9 hpos hz1 hz hgz hcz
  refine lv_iinc (v := 10) (lv' := [(1, .int 10), (0, .ref h)]) hx hb dX9_init_34 hl (k := 0) rfl (by decide) (by decide) rfl (fun ls hl => ?_)
  refine lv_goto (tgt := 15) hx hb dX9_init_37 (by decide) ?_
  refine lv_iload_n hx hb dX9_init_15 rfl (lv_at hl 0 rfl) ?_
  refine lv_bipush (v := 16) hx hb dX9_init_16 (by decide) ?_
  refine lv_icmp_ge (tgt := 40) hx hb dX9_init_18 (by decide) (fun h => absurd h (by decide)) (fun _ => ?_)
  refine lv_aload_n hx hb dX9_init_21 rfl (lv_at hl 1 rfl) ?_
  refine fg_RX9_11 hC hw 0 rfl rfl dX9_init_22 ?_
  refine lv_iload_n hx hb dX9_init_25 rfl (lv_at hl 0 rfl) ?_
  refine k_new (ci := 7) hC hw in_RX7 tyX7 tyX7_ok gw_77 gw_79 gw_6 rfl nf_RX7 (by decide) (by decide) dX9_init_26 (fun q10 H hw => ?_)
  refine W.widen (k := 72) (n := 795) (by decide) (by decide) ?_
  refine lv_dup hx hb dX9_init_29 rfl ?_
  refine b_I 0 gw_80 gw_81 gw_6 gw_82 rfl hd_X7_init hC hw (b_X7 γ l q10) ⟨by decide, by decide⟩ ⟨by decide, by decide⟩ hl.1 rfl rfl (Nat.le_of_ble_eq_true rfl) dX9_init_30 (fun r w1 H locs hq hw => ?_)
  obtain ⟨rfl, Z, fs, Z2, rfl, hgz, hcz, hz⟩ := hq
  have hw := hw.perm b_pm
  rw [← List.map_append] at hw
  refine W.eq (g2 := F0 m 33 ls [.ref q10, .int 10, .ref a]) rfl ?_
  refine W.widen (k := 78) (n := 863) (by decide) (by decide) ?_
  have hz1 : (30, q10, .inr (7, fs)) ∈ Z := by rw [hz]; exact List.mem_cons_self
  have hpos : ([(h, .inr (9, [.ref a, .int 0, .int 0])), (a, .inl (γ.2.1 5, 16, .inr (.inr (.inr (.inr f10)))))] ++ (Z ++ G10).map Prod.snd : va_W)[2]? = some (q10, .inr (7, fs)) := by rw [hz]; rfl
  refine k_astq hC hw 1 5 2 7 rfl rfl hpos rfl (k_in0 (by decide)) dX9_init_33 (fun H locs hw => ?_)
  have hf11 := b_up hf10 hz1
  have hc11 := hcz.app hc10
  have hg11 : (Z ++ G10).map Prod.fst = (List.replicate 11 gs7).flatten := by rw [List.map_append, hgz, hg10]; rfl
  have hw : kW γ A ([(h, .inr (9, [.ref a, .int 0, .int 0])), (a, .inl (γ.2.1 5, 16, .inr (.inr (.inr (.inr (va_up f10 10 (some q10))))))) ] ++ (Z ++ G10).map Prod.snd) s H locs := hw
  generalize va_up f10 10 (some q10) = f11 at hw hf11
  generalize Z ++ G10 = G11 at hw hf11 hc11 hg11
  clear hf10 hc10 hg10 hpos hz1 hz hgz hcz
  refine lv_iinc (v := 11) (lv' := [(1, .int 11), (0, .ref h)]) hx hb dX9_init_34 hl (k := 0) rfl (by decide) (by decide) rfl (fun ls hl => ?_)
  refine lv_goto (tgt := 15) hx hb dX9_init_37 (by decide) ?_
  refine lv_iload_n hx hb dX9_init_15 rfl (lv_at hl 0 rfl) ?_
  refine lv_bipush (v := 16) hx hb dX9_init_16 (by decide) ?_
  refine lv_icmp_ge (tgt := 40) hx hb dX9_init_18 (by decide) (fun h => absurd h (by decide)) (fun _ => ?_)
  refine lv_aload_n hx hb dX9_init_21 rfl (lv_at hl 1 rfl) ?_
  refine fg_RX9_11 hC hw 0 rfl rfl dX9_init_22 ?_
  refine lv_iload_n hx hb dX9_init_25 rfl (lv_at hl 0 rfl) ?_
  refine k_new (ci := 7) hC hw in_RX7 tyX7 tyX7_ok gw_77 gw_79 gw_6 rfl nf_RX7 (by decide) (by decide) dX9_init_26 (fun q11 H hw => ?_)
  refine W.widen (k := 79) (n := 872) (by decide) (by decide) ?_
  refine lv_dup hx hb dX9_init_29 rfl ?_
  refine b_I 0 gw_80 gw_81 gw_6 gw_82 rfl hd_X7_init hC hw (b_X7 γ l q11) ⟨by decide, by decide⟩ ⟨by decide, by decide⟩ hl.1 rfl rfl (Nat.le_of_ble_eq_true rfl) dX9_init_30 (fun r w1 H locs hq hw => ?_)
  obtain ⟨rfl, Z, fs, Z2, rfl, hgz, hcz, hz⟩ := hq
  have hw := hw.perm b_pm
  rw [← List.map_append] at hw
  refine W.eq (g2 := F0 m 33 ls [.ref q11, .int 11, .ref a]) rfl ?_
  refine W.widen (k := 85) (n := 940) (by decide) (by decide) ?_
  have hz1 : (30, q11, .inr (7, fs)) ∈ Z := by rw [hz]; exact List.mem_cons_self
  have hpos : ([(h, .inr (9, [.ref a, .int 0, .int 0])), (a, .inl (γ.2.1 5, 16, .inr (.inr (.inr (.inr f11)))))] ++ (Z ++ G11).map Prod.snd : va_W)[2]? = some (q11, .inr (7, fs)) := by rw [hz]; rfl
  refine k_astq hC hw 1 5 2 7 rfl rfl hpos rfl (k_in0 (by decide)) dX9_init_33 (fun H locs hw => ?_)
  have hf12 := b_up hf11 hz1
  have hc12 := hcz.app hc11
  have hg12 : (Z ++ G11).map Prod.fst = (List.replicate 12 gs7).flatten := by rw [List.map_append, hgz, hg11]; rfl
  have hw : kW γ A ([(h, .inr (9, [.ref a, .int 0, .int 0])), (a, .inl (γ.2.1 5, 16, .inr (.inr (.inr (.inr (va_up f11 11 (some q11))))))) ] ++ (Z ++ G11).map Prod.snd) s H locs := hw
  generalize va_up f11 11 (some q11) = f12 at hw hf12
  generalize Z ++ G11 = G12 at hw hf12 hc12 hg12
  clear hf11 hc11 hg11 hpos hz1 hz hgz hcz
  refine lv_iinc (v := 12) (lv' := [(1, .int 12), (0, .ref h)]) hx hb dX9_init_34 hl (k := 0) rfl (by decide) (by decide) rfl (fun ls hl => ?_)
  refine lv_goto (tgt := 15) hx hb dX9_init_37 (by decide) ?_
  refine lv_iload_n hx hb dX9_init_15 rfl (lv_at hl 0 rfl) ?_
  refine lv_bipush (v := 16) hx hb dX9_init_16 (by decide) ?_
  refine lv_icmp_ge (tgt := 40) hx hb dX9_init_18 (by decide) (fun h => absurd h (by decide)) (fun _ => ?_)
  refine lv_aload_n hx hb dX9_init_21 rfl (lv_at hl 1 rfl) ?_
  refine fg_RX9_11 hC hw 0 rfl rfl dX9_init_22 ?_
  refine lv_iload_n hx hb dX9_init_25 rfl (lv_at hl 0 rfl) ?_
  refine k_new (ci := 7) hC hw in_RX7 tyX7 tyX7_ok gw_77 gw_79 gw_6 rfl nf_RX7 (by decide) (by decide) dX9_init_26 (fun q12 H hw => ?_)
  refine W.widen (k := 86) (n := 949) (by decide) (by decide) ?_
  refine lv_dup hx hb dX9_init_29 rfl ?_
  refine b_I 0 gw_80 gw_81 gw_6 gw_82 rfl hd_X7_init hC hw (b_X7 γ l q12) ⟨by decide, by decide⟩ ⟨by decide, by decide⟩ hl.1 rfl rfl (Nat.le_of_ble_eq_true rfl) dX9_init_30 (fun r w1 H locs hq hw => ?_)
  obtain ⟨rfl, Z, fs, Z2, rfl, hgz, hcz, hz⟩ := hq
  have hw := hw.perm b_pm
  rw [← List.map_append] at hw
  refine W.eq (g2 := F0 m 33 ls [.ref q12, .int 12, .ref a]) rfl ?_
  refine W.widen (k := 92) (n := 1017) (by decide) (by decide) ?_
  have hz1 : (30, q12, .inr (7, fs)) ∈ Z := by rw [hz]; exact List.mem_cons_self
  have hpos : ([(h, .inr (9, [.ref a, .int 0, .int 0])), (a, .inl (γ.2.1 5, 16, .inr (.inr (.inr (.inr f12)))))] ++ (Z ++ G12).map Prod.snd : va_W)[2]? = some (q12, .inr (7, fs)) := by rw [hz]; rfl
  refine k_astq hC hw 1 5 2 7 rfl rfl hpos rfl (k_in0 (by decide)) dX9_init_33 (fun H locs hw => ?_)
  have hf13 := b_up hf12 hz1
  have hc13 := hcz.app hc12
  have hg13 : (Z ++ G12).map Prod.fst = (List.replicate 13 gs7).flatten := by rw [List.map_append, hgz, hg12]; rfl
  have hw : kW γ A ([(h, .inr (9, [.ref a, .int 0, .int 0])), (a, .inl (γ.2.1 5, 16, .inr (.inr (.inr (.inr (va_up f12 12 (some q12))))))) ] ++ (Z ++ G12).map Prod.snd) s H locs := hw
  generalize va_up f12 12 (some q12) = f13 at hw hf13
  generalize Z ++ G12 = G13 at hw hf13 hc13 hg13
  clear hf12 hc12 hg12 hpos hz1 hz hgz hcz
  refine lv_iinc (v := 13) (lv' := [(1, .int 13), (0, .ref h)]) hx hb dX9_init_34 hl (k := 0) rfl (by decide) (by decide) rfl (fun ls hl => ?_)
  refine lv_goto (tgt := 15) hx hb dX9_init_37 (by decide) ?_
  refine lv_iload_n hx hb dX9_init_15 rfl (lv_at hl 0 rfl) ?_
  refine lv_bipush (v := 16) hx hb dX9_init_16 (by decide) ?_
  refine lv_icmp_ge (tgt := 40) hx hb dX9_init_18 (by decide) (fun h => absurd h (by decide)) (fun _ => ?_)
  refine lv_aload_n hx hb dX9_init_21 rfl (lv_at hl 1 rfl) ?_
  refine fg_RX9_11 hC hw 0 rfl rfl dX9_init_22 ?_
  refine lv_iload_n hx hb dX9_init_25 rfl (lv_at hl 0 rfl) ?_
  refine k_new (ci := 7) hC hw in_RX7 tyX7 tyX7_ok gw_77 gw_79 gw_6 rfl nf_RX7 (by decide) (by decide) dX9_init_26 (fun q13 H hw => ?_)
  refine W.widen (k := 93) (n := 1026) (by decide) (by decide) ?_
  refine lv_dup hx hb dX9_init_29 rfl ?_
  refine b_I 0 gw_80 gw_81 gw_6 gw_82 rfl hd_X7_init hC hw (b_X7 γ l q13) ⟨by decide, by decide⟩ ⟨by decide, by decide⟩ hl.1 rfl rfl (Nat.le_of_ble_eq_true rfl) dX9_init_30 (fun r w1 H locs hq hw => ?_)
  obtain ⟨rfl, Z, fs, Z2, rfl, hgz, hcz, hz⟩ := hq
  have hw := hw.perm b_pm
  rw [← List.map_append] at hw
  refine W.eq (g2 := F0 m 33 ls [.ref q13, .int 13, .ref a]) rfl ?_
  refine W.widen (k := 99) (n := 1094) (by decide) (by decide) ?_
  have hz1 : (30, q13, .inr (7, fs)) ∈ Z := by rw [hz]; exact List.mem_cons_self
  have hpos : ([(h, .inr (9, [.ref a, .int 0, .int 0])), (a, .inl (γ.2.1 5, 16, .inr (.inr (.inr (.inr f13)))))] ++ (Z ++ G13).map Prod.snd : va_W)[2]? = some (q13, .inr (7, fs)) := by rw [hz]; rfl
  refine k_astq hC hw 1 5 2 7 rfl rfl hpos rfl (k_in0 (by decide)) dX9_init_33 (fun H locs hw => ?_)
  have hf14 := b_up hf13 hz1
  have hc14 := hcz.app hc13
  have hg14 : (Z ++ G13).map Prod.fst = (List.replicate 14 gs7).flatten := by rw [List.map_append, hgz, hg13]; rfl
  have hw : kW γ A ([(h, .inr (9, [.ref a, .int 0, .int 0])), (a, .inl (γ.2.1 5, 16, .inr (.inr (.inr (.inr (va_up f13 13 (some q13))))))) ] ++ (Z ++ G13).map Prod.snd) s H locs := hw
  generalize va_up f13 13 (some q13) = f14 at hw hf14
  generalize Z ++ G13 = G14 at hw hf14 hc14 hg14
  clear hf13 hc13 hg13 hpos hz1 hz hgz hcz
  refine lv_iinc (v := 14) (lv' := [(1, .int 14), (0, .ref h)]) hx hb dX9_init_34 hl (k := 0) rfl (by decide) (by decide) rfl (fun ls hl => ?_)
  refine lv_goto (tgt := 15) hx hb dX9_init_37 (by decide) ?_
  refine lv_iload_n hx hb dX9_init_15 rfl (lv_at hl 0 rfl) ?_
  refine lv_bipush (v := 16) hx hb dX9_init_16 (by decide) ?_
  refine lv_icmp_ge (tgt := 40) hx hb dX9_init_18 (by decide) (fun h => absurd h (by decide)) (fun _ => ?_)
  refine lv_aload_n hx hb dX9_init_21 rfl (lv_at hl 1 rfl) ?_
  refine fg_RX9_11 hC hw 0 rfl rfl dX9_init_22 ?_
  refine lv_iload_n hx hb dX9_init_25 rfl (lv_at hl 0 rfl) ?_
  refine k_new (ci := 7) hC hw in_RX7 tyX7 tyX7_ok gw_77 gw_79 gw_6 rfl nf_RX7 (by decide) (by decide) dX9_init_26 (fun q14 H hw => ?_)
  refine W.widen (k := 100) (n := 1103) (by decide) (by decide) ?_
  refine lv_dup hx hb dX9_init_29 rfl ?_
  refine b_I 0 gw_80 gw_81 gw_6 gw_82 rfl hd_X7_init hC hw (b_X7 γ l q14) ⟨by decide, by decide⟩ ⟨by decide, by decide⟩ hl.1 rfl rfl (Nat.le_of_ble_eq_true rfl) dX9_init_30 (fun r w1 H locs hq hw => ?_)
  obtain ⟨rfl, Z, fs, Z2, rfl, hgz, hcz, hz⟩ := hq
  have hw := hw.perm b_pm
  rw [← List.map_append] at hw
  refine W.eq (g2 := F0 m 33 ls [.ref q14, .int 14, .ref a]) rfl ?_
  refine W.widen (k := 106) (n := 1171) (by decide) (by decide) ?_
  have hz1 : (30, q14, .inr (7, fs)) ∈ Z := by rw [hz]; exact List.mem_cons_self
  have hpos : ([(h, .inr (9, [.ref a, .int 0, .int 0])), (a, .inl (γ.2.1 5, 16, .inr (.inr (.inr (.inr f14)))))] ++ (Z ++ G14).map Prod.snd : va_W)[2]? = some (q14, .inr (7, fs)) := by rw [hz]; rfl
  refine k_astq hC hw 1 5 2 7 rfl rfl hpos rfl (k_in0 (by decide)) dX9_init_33 (fun H locs hw => ?_)
  have hf15 := b_up hf14 hz1
  have hc15 := hcz.app hc14
  have hg15 : (Z ++ G14).map Prod.fst = (List.replicate 15 gs7).flatten := by rw [List.map_append, hgz, hg14]; rfl
  have hw : kW γ A ([(h, .inr (9, [.ref a, .int 0, .int 0])), (a, .inl (γ.2.1 5, 16, .inr (.inr (.inr (.inr (va_up f14 14 (some q14))))))) ] ++ (Z ++ G14).map Prod.snd) s H locs := hw
  generalize va_up f14 14 (some q14) = f15 at hw hf15
  generalize Z ++ G14 = G15 at hw hf15 hc15 hg15
  clear hf14 hc14 hg14 hpos hz1 hz hgz hcz
  refine lv_iinc (v := 15) (lv' := [(1, .int 15), (0, .ref h)]) hx hb dX9_init_34 hl (k := 0) rfl (by decide) (by decide) rfl (fun ls hl => ?_)
  refine lv_goto (tgt := 15) hx hb dX9_init_37 (by decide) ?_
  refine lv_iload_n hx hb dX9_init_15 rfl (lv_at hl 0 rfl) ?_
  refine lv_bipush (v := 16) hx hb dX9_init_16 (by decide) ?_
  refine lv_icmp_ge (tgt := 40) hx hb dX9_init_18 (by decide) (fun h => absurd h (by decide)) (fun _ => ?_)
  refine lv_aload_n hx hb dX9_init_21 rfl (lv_at hl 1 rfl) ?_
  refine fg_RX9_11 hC hw 0 rfl rfl dX9_init_22 ?_
  refine lv_iload_n hx hb dX9_init_25 rfl (lv_at hl 0 rfl) ?_
  refine k_new (ci := 7) hC hw in_RX7 tyX7 tyX7_ok gw_77 gw_79 gw_6 rfl nf_RX7 (by decide) (by decide) dX9_init_26 (fun q15 H hw => ?_)
  refine W.widen (k := 107) (n := 1180) (by decide) (by decide) ?_
  refine lv_dup hx hb dX9_init_29 rfl ?_
  refine b_I 0 gw_80 gw_81 gw_6 gw_82 rfl hd_X7_init hC hw (b_X7 γ l q15) ⟨by decide, by decide⟩ ⟨by decide, by decide⟩ hl.1 rfl rfl (Nat.le_of_ble_eq_true rfl) dX9_init_30 (fun r w1 H locs hq hw => ?_)
  obtain ⟨rfl, Z, fs, Z2, rfl, hgz, hcz, hz⟩ := hq
  have hw := hw.perm b_pm
  rw [← List.map_append] at hw
  refine W.eq (g2 := F0 m 33 ls [.ref q15, .int 15, .ref a]) rfl ?_
  refine W.widen (k := 113) (n := 1248) (by decide) (by decide) ?_
  have hz1 : (30, q15, .inr (7, fs)) ∈ Z := by rw [hz]; exact List.mem_cons_self
  have hpos : ([(h, .inr (9, [.ref a, .int 0, .int 0])), (a, .inl (γ.2.1 5, 16, .inr (.inr (.inr (.inr f15)))))] ++ (Z ++ G15).map Prod.snd : va_W)[2]? = some (q15, .inr (7, fs)) := by rw [hz]; rfl
  refine k_astq hC hw 1 5 2 7 rfl rfl hpos rfl (k_in0 (by decide)) dX9_init_33 (fun H locs hw => ?_)
  have hf16 := b_up hf15 hz1
  have hc16 := hcz.app hc15
  have hg16 : (Z ++ G15).map Prod.fst = (List.replicate 16 gs7).flatten := by rw [List.map_append, hgz, hg15]; rfl
  have hw : kW γ A ([(h, .inr (9, [.ref a, .int 0, .int 0])), (a, .inl (γ.2.1 5, 16, .inr (.inr (.inr (.inr (va_up f15 15 (some q15))))))) ] ++ (Z ++ G15).map Prod.snd) s H locs := hw
  generalize va_up f15 15 (some q15) = f16 at hw hf16
  generalize Z ++ G15 = G16 at hw hf16 hc16 hg16
  clear hf15 hc15 hg15 hpos hz1 hz hgz hcz
  refine lv_iinc (v := 16) (lv' := [(1, .int 16), (0, .ref h)]) hx hb dX9_init_34 hl (k := 0) rfl (by decide) (by decide) rfl (fun ls hl => ?_)
  refine lv_goto (tgt := 15) hx hb dX9_init_37 (by decide) ?_
  refine lv_iload_n hx hb dX9_init_15 rfl (lv_at hl 0 rfl) ?_
  refine lv_bipush (v := 16) hx hb dX9_init_16 (by decide) ?_
  refine lv_icmp_ge (tgt := 40) hx hb dX9_init_18 (by decide) (fun _ => ?_) (fun h => absurd (by decide) h)
  exact k_vret hC hr hlocks hw (List.range _) (q_nd _) (q_all _) ⟨rfl, a, f16, G16, rfl, hg16, hc16, hf16⟩ (by decide) (by decide) dX9_init_40

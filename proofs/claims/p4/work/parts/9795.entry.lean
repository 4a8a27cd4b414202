set_option maxHeartbeats 4000000 in
set_option maxRecDepth 100000 in
theorem whole_start {p : Program} {e : Env} {s : State} {m : MethodId} {below : List Frame} {meth : Method} {c : Code} (l : Launch) (hl9 : l.stackTraces = false) {b L : Nat} {xs : Nat → Int32} (hL : L ≤ 3584) (C0 : lw_At p s m meth c b L xs) : W p l e room_1 s m #[Value.ref b] below meth c s.heap [] 0 0 (lw_Z below #[Value.ref b] s) (entryFrame m ([Value.ref b] : List Value).toArray 7) := by
  obtain ⟨γ, hγ, hC⟩ := k_begin C0
  obtain ⟨-, -, hr, -, -, -, hX, hbl, hlocks, -⟩ := C0
  have hx := hC.1
  have hb := hC.2.1
  have hbA : ¬ (fun q : Nat => s.heap.size ≤ q) b := Nat.not_le.mpr hbl
  have hAs : ∀ q : Nat, (fun q : Nat => s.heap.size ≤ q) q → s.heap.size ≤ q := fun _ h => h
  have hw : kW γ (fun q : Nat => s.heap.size ≤ q) [] s s.heap [] := ⟨fun k q h => by simp at h, ⟨fun i j p q h => by simp at h, fun k q h => by simp at h⟩, va_S.rf⟩
  generalize hA : (fun q : Nat => s.heap.size ≤ q) = A at hC hbA hAs hw
  have hl := lv_entry ([.ref b]) (n := 7) (Nat.le_of_ble_eq_true rfl)
  rw [lg_entry_eq]
  generalize (lg_sl ([.ref b]) ++ List.replicate (7 - (lg_sl ([.ref b])).length) Slot.unset).toArray = ls at hl ⊢
  have hl : lv_has ls 7 [(0, .ref b)] := hl
  refine k_new (ci := 10) hC hw in_RX11 tyX11 tyX11_ok gw_23 gw_24 gw_1 rfl nf_RX11 (by decide) (by decide) dL_law_0 (fun x H hw => ?_)
  refine W.widen (k := 1) (n := 11) (by decide) (by decide) ?_
  refine lv_dup hx hb dL_law_3 rfl ?_
  refine b_I (ws := []) 0 gw_25 gw_26 gw_1 gw_27 rfl hd_X11_init hC hw (x11_told γ l hγ x) ⟨by decide, by decide⟩ ⟨by decide, by decide⟩ hl.1 rfl rfl (Nat.le_of_ble_eq_true rfl) dL_law_4 (fun r wx H locs hq hw => ?_)
  obtain ⟨⟨⟨rfl, hHx, hax⟩, hsx⟩, hTx⟩ := hq
  refine W.eq (g2 := F0 m 7 ls [.ref x]) rfl ?_
  refine W.widen (k := 208) (n := 6216) (by decide) (by decide) ?_
  refine lv_astore_n (lv' := [(1, .ref x), (0, .ref b)]) hx hb dL_law_7 rfl hl (by decide) rfl (fun ls hl => ?_)
  have hw : kW γ A wx s H locs := hw
  refine k_new (ci := 11) hC hw in_RX12 tyX12 tyX12_ok gw_1182 gw_1183 gw_15 rfl nf_RX12 (by decide) (by decide) dL_law_8 (fun z H hw => ?_)
  refine W.widen (k := 209) (n := 6280) (by decide) (by decide) ?_
  refine lv_dup hx hb dL_law_11 rfl ?_
  refine b_I 0 gw_1184 gw_1185 gw_15 gw_1186 rfl hd_X12_init hC hw (x12_told γ l z) ⟨by decide, by decide⟩ ⟨by decide, by decide⟩ hl.1 rfl rfl (Nat.le_of_ble_eq_true rfl) dL_law_12 (fun r wm H locs hq hw => ?_)
  obtain ⟨⟨⟨rfl, hHm, ham⟩, hMx, hsm⟩, hTz⟩ := hq
  refine W.eq (g2 := F0 m 15 ls [.ref z]) rfl ?_
  refine W.widen (k := 250) (n := 13921) (by decide) (by decide) ?_
  refine lv_astore_n (lv' := [(2, .ref z), (1, .ref x), (0, .ref b)]) hx hb dL_law_15 rfl hl (by decide) rfl (fun ls hl => ?_)
  refine lv_iconst (v := 1) hx hb dL_law_16 (by decide) ?_
  refine k_newa (atype := .long) (N' := 1) (a0 := (1, .inr (.inl (fun _ => 0)))) hC hw rfl gw_133 1 rfl (fun _ h => by cases h) (fun _ => rfl) (by decide) (by decide) (by decide) (by decide) (by decide) dL_law_17 (fun ou H hw => ?_)
  refine W.widen (k := 251) (n := 13922) (by decide) (by decide) ?_
  refine lv_astore_n (lv' := [(3, .ref ou), (2, .ref z), (1, .ref x), (0, .ref b)]) hx hb dL_law_19 rfl hl (by decide) rfl (fun ls hl => ?_)
  refine lv_iconst (v := 0) hx hb dL_law_20 (by decide) ?_
  refine lv_istore (lv' := [(4, .int 0), (3, .ref ou), (2, .ref z), (1, .ref x), (0, .ref b)]) hx hb dL_law_21 hl (by decide) rfl (fun ls hl => ?_)
  have hw : kW γ A (wx ++ (wm ++ [(ou, .inl (γ.2.1 1, 1, .inr (.inl (fun _ => 0))))])) s H locs := by rw [← List.append_assoc]; exact hw
  exact l_loop hC hr hlocks hX hbl hbA hAs hl9 hax ham hL (L + 1) 0 H locs ls (by omega) (by omega) ⟨wx, wm, _, hw, hHx, hHm, hMx, lR_zero hsx hsm, _, _, hTx, hTz, rfl, rfl, fun i hi => absurd hi (Nat.not_lt_zero i), fun i hi => absurd hi (Nat.not_lt_zero i), fun i _ => rfl⟩ (lv_sub hl [0, 4, 3, 2, 1] rfl)

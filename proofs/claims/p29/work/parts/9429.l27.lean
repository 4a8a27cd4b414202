set_option maxHeartbeats 4000000 in
set_option maxRecDepth 100000 in
theorem lc_27 {γ : kΓ} {l : Launch} {p : Program} {e : Env} {s : State} {m : MethodId} {below : List Frame} {meth : Method} {c : Code} {A : Nat → Prop} {Q : State → Prop} {b L : Nat} {xs : Nat → Int32} {x z ou : Nat} {ax am : List Nat} {i : Int32} {cs ss : Nat} (hC : kC γ p s m [Value.ref b].toArray c code 7 RL A) (hX : va_X b L xs s s.heap) (hbl : b < s.heap.size) (hbA : ¬ A b) (hl9 : l.stackTraces = false) (hax : ax[0]? = some x) (ham : am[0]? = some z) (hi : ∀ j : Int32, 0 ≤ j → j ≤ 6 → vp_in (i + j) L) (hcs : cs + 1 ≤ 601024) (hss : ss + 6 ≤ 7293034)
    (hk : ∀ (H : Heap) (locs : List Loc) (ls : Array Slot), lIv γ A ax am ou s H locs → lv_has ls 7 [(4, .int i), (0, .ref b), (1, .ref x), (2, .ref z), (3, .ref ou)] → W p l e room_1 s m [Value.ref b].toArray below meth c H locs (cs + 1) (ss + 6) Q (F0 m 1286 ls []))
    {H : Heap} {locs : List Loc} {ls : Array Slot} (hI : lIv γ A ax am ou s H locs) (hl : lv_has ls 7 [(4, .int i), (0, .ref b), (1, .ref x), (2, .ref z), (3, .ref ou)]) : W p l e room_1 s m [Value.ref b].toArray below meth c H locs cs ss Q (F0 m 1039 ls []) := by
  by_cases hb0 : xs (i + 1).toNatClampNeg < 0
  · exact lc_27_bo_l _ _ _ _ hC hX hbl hbA hl9 hax ham hi hcs hss hk hI hl rfl rfl rfl rfl hb0
  by_cases hb1 : 9 < xs (i + 1).toNatClampNeg
  · exact lc_27_bo_h _ _ _ _ hC hX hbl hbA hl9 hax ham hi hcs hss hk hI hl rfl rfl rfl rfl hb0 hb1
  by_cases hl0 : xs (i + 2).toNatClampNeg < 0
  · exact lc_27_lo_l _ _ _ _ hC hX hbl hbA hl9 hax ham hi hcs hss hk hI hl rfl rfl rfl rfl hb0 hb1 hl0
  by_cases hl1 : 9 < xs (i + 2).toNatClampNeg
  · exact lc_27_lo_h _ _ _ _ hC hX hbl hbA hl9 hax ham hi hcs hss hk hI hl rfl rfl rfl rfl hb0 hb1 hl0 hl1
  by_cases hg0 : xs (i + 3).toNatClampNeg < 0
  · exact lc_27_ge_l _ _ _ _ hC hX hbl hbA hl9 hax ham hi hcs hss hk hI hl rfl rfl rfl rfl hb0 hb1 hl0 hl1 hg0
  by_cases hg1 : 9 < xs (i + 3).toNatClampNeg
  · exact lc_27_ge_h _ _ _ _ hC hX hbl hbA hl9 hax ham hi hcs hss hk hI hl rfl rfl rfl rfl hb0 hb1 hl0 hl1 hg0 hg1
  by_cases hw0 : xs (i + 4).toNatClampNeg < -1
  · exact lc_27_wh _ _ _ _ hC hX hbl hbA hl9 hax ham hi hcs hss hk hI hl rfl rfl rfl rfl hb0 hb1 hl0 hl1 hg0 hg1 hw0
  cases hK : kR (xs (i + 1).toNatClampNeg) (xs (i + 2).toNatClampNeg) (xs (i + 3).toNatClampNeg) (xs (i + 4).toNatClampNeg) 4 0 with
  | none => exact lc_27_n _ _ _ _ hC hX hbl hbA hl9 hax ham hi hcs hss hk hI hl rfl rfl rfl rfl hb0 hb1 hl0 hl1 hg0 hg1 hw0 hK
  | some v => exact lc_27_r _ _ _ _ v hC hX hbl hbA hl9 hax ham hi hcs hss hk hI hl rfl rfl rfl rfl hb0 hb1 hl0 hl1 hg0 hg1 hw0 hK

theorem b_memE {g a : Nat} {G Z : bZ} (h : ∃ c, (g, a, c) ∈ G) : ∃ c, (g, a, c) ∈ Z ++ G := h.elim (fun c h => ⟨c, List.mem_append_right _ h⟩)
theorem b_memA {f : Nat → Option Nat} {g n : Nat} {G Z : bZ} (h : ∀ j, j < n → ∃ b c, f j = some b ∧ (g, b, c) ∈ G) : ∀ j, j < n → ∃ b c, f j = some b ∧ (g, b, c) ∈ Z ++ G := fun j hj => (h j hj).elim (fun b h => h.elim (fun c h => ⟨b, c, h.1, List.mem_append_right _ h.2⟩))
theorem b_memf {f : Nat → Option Nat} {g n : Nat} {G G2 : bZ} (h : ∀ j, j < n → ∃ b c, f j = some b ∧ (g, b, c) ∈ G) : ∀ j, j < n → ∃ b c, f j = some b ∧ (g, b, c) ∈ G ++ G2 := fun j hj => (h j hj).elim (fun b h => h.elim (fun c h => ⟨b, c, h.1, List.mem_append_left _ h.2⟩))
def bX (γ : kΓ) (D : qWd) (x : Nat) (r : Option Value) (w1 : va_W) : Prop := r = none ∧ qH D γ (w1.map Prod.fst) (fun _ _ => False) w1 ∧ (w1.map Prod.fst)[0]? = some x
theorem dX11_init_0 : decode cX11_init 0 = .ok (.aload_n 0, 1) := by decide +kernel
theorem dX11_init_1 : decode cX11_init 1 = .ok (.invokespecial 1, 3) := by decide +kernel
theorem dX11_init_4 : decode cX11_init 4 = .ok (.aload_n 0, 1) := by decide +kernel
theorem dX11_init_5 : decode cX11_init 5 = .ok (.new 7, 3) := by decide +kernel
theorem dX11_init_8 : decode cX11_init 8 = .ok (.dup, 1) := by decide +kernel
theorem dX11_init_9 : decode cX11_init 9 = .ok (.invokespecial 9, 3) := by decide +kernel
theorem dX11_init_12 : decode cX11_init 12 = .ok (.putfield 10, 3) := by decide +kernel
theorem dX11_init_15 : decode cX11_init 15 = .ok (.aload_n 0, 1) := by decide +kernel
theorem dX11_init_16 : decode cX11_init 16 = .ok (.new 16, 3) := by decide +kernel
theorem dX11_init_19 : decode cX11_init 19 = .ok (.dup, 1) := by decide +kernel
theorem dX11_init_20 : decode cX11_init 20 = .ok (.invokespecial 18, 3) := by decide +kernel
theorem dX11_init_23 : decode cX11_init 23 = .ok (.putfield 19, 3) := by decide +kernel
theorem dX11_init_26 : decode cX11_init 26 = .ok (.aload_n 0, 1) := by decide +kernel
theorem dX11_init_27 : decode cX11_init 27 = .ok (.new 23, 3) := by decide +kernel
theorem dX11_init_30 : decode cX11_init 30 = .ok (.dup, 1) := by decide +kernel
theorem dX11_init_31 : decode cX11_init 31 = .ok (.invokespecial 25, 3) := by decide +kernel
theorem dX11_init_34 : decode cX11_init 34 = .ok (.putfield 26, 3) := by decide +kernel
theorem dX11_init_37 : decode cX11_init 37 = .ok (.aload_n 0, 1) := by decide +kernel
theorem dX11_init_38 : decode cX11_init 38 = .ok (.iconst 4, 1) := by decide +kernel
theorem dX11_init_39 : decode cX11_init 39 = .ok (.anewarray 23, 3) := by decide +kernel
theorem dX11_init_42 : decode cX11_init 42 = .ok (.putfield 30, 3) := by decide +kernel
theorem dX11_init_45 : decode cX11_init 45 = .ok (.aload_n 0, 1) := by decide +kernel
theorem dX11_init_46 : decode cX11_init 46 = .ok (.new 34, 3) := by decide +kernel
theorem dX11_init_49 : decode cX11_init 49 = .ok (.dup, 1) := by decide +kernel
theorem dX11_init_50 : decode cX11_init 50 = .ok (.invokespecial 36, 3) := by decide +kernel
theorem dX11_init_53 : decode cX11_init 53 = .ok (.putfield 37, 3) := by decide +kernel
theorem dX11_init_56 : decode cX11_init 56 = .ok (.aload_n 0, 1) := by decide +kernel
theorem dX11_init_57 : decode cX11_init 57 = .ok (.new 41, 3) := by decide +kernel
theorem dX11_init_60 : decode cX11_init 60 = .ok (.dup, 1) := by decide +kernel
theorem dX11_init_61 : decode cX11_init 61 = .ok (.invokespecial 43, 3) := by decide +kernel
theorem dX11_init_64 : decode cX11_init 64 = .ok (.putfield 44, 3) := by decide +kernel
theorem dX11_init_67 : decode cX11_init 67 = .ok (.aload_n 0, 1) := by decide +kernel
theorem dX11_init_68 : decode cX11_init 68 = .ok (.new 48, 3) := by decide +kernel
theorem dX11_init_71 : decode cX11_init 71 = .ok (.dup, 1) := by decide +kernel
theorem dX11_init_72 : decode cX11_init 72 = .ok (.invokespecial 50, 3) := by decide +kernel
theorem dX11_init_75 : decode cX11_init 75 = .ok (.putfield 51, 3) := by decide +kernel
theorem dX11_init_78 : decode cX11_init 78 = .ok (.aload_n 0, 1) := by decide +kernel
theorem dX11_init_79 : decode cX11_init 79 = .ok (.new 55, 3) := by decide +kernel
theorem dX11_init_82 : decode cX11_init 82 = .ok (.dup, 1) := by decide +kernel
theorem dX11_init_83 : decode cX11_init 83 = .ok (.invokespecial 57, 3) := by decide +kernel
theorem dX11_init_86 : decode cX11_init 86 = .ok (.putfield 58, 3) := by decide +kernel
theorem dX11_init_89 : decode cX11_init 89 = .ok (.aload_n 0, 1) := by decide +kernel
theorem dX11_init_90 : decode cX11_init 90 = .ok (.new 62, 3) := by decide +kernel
theorem dX11_init_93 : decode cX11_init 93 = .ok (.dup, 1) := by decide +kernel
theorem dX11_init_94 : decode cX11_init 94 = .ok (.invokespecial 64, 3) := by decide +kernel
theorem dX11_init_97 : decode cX11_init 97 = .ok (.putfield 65, 3) := by decide +kernel
theorem dX11_init_100 : decode cX11_init 100 = .ok (.aload_n 0, 1) := by decide +kernel
theorem dX11_init_101 : decode cX11_init 101 = .ok (.new 62, 3) := by decide +kernel
theorem dX11_init_104 : decode cX11_init 104 = .ok (.dup, 1) := by decide +kernel
theorem dX11_init_105 : decode cX11_init 105 = .ok (.invokespecial 64, 3) := by decide +kernel
theorem dX11_init_108 : decode cX11_init 108 = .ok (.putfield 69, 3) := by decide +kernel
theorem dX11_init_111 : decode cX11_init 111 = .ok (.aload_n 0, 1) := by decide +kernel
theorem dX11_init_112 : decode cX11_init 112 = .ok (.new 72, 3) := by decide +kernel
theorem dX11_init_115 : decode cX11_init 115 = .ok (.dup, 1) := by decide +kernel
theorem dX11_init_116 : decode cX11_init 116 = .ok (.aload_n 0, 1) := by decide +kernel
theorem dX11_init_117 : decode cX11_init 117 = .ok (.getfield 10, 3) := by decide +kernel
theorem dX11_init_120 : decode cX11_init 120 = .ok (.aload_n 0, 1) := by decide +kernel
theorem dX11_init_121 : decode cX11_init 121 = .ok (.getfield 65, 3) := by decide +kernel
theorem dX11_init_124 : decode cX11_init 124 = .ok (.invokespecial 74, 3) := by decide +kernel
theorem dX11_init_127 : decode cX11_init 127 = .ok (.putfield 77, 3) := by decide +kernel
theorem dX11_init_130 : decode cX11_init 130 = .ok (.iconst 0, 1) := by decide +kernel
theorem dX11_init_131 : decode cX11_init 131 = .ok (.istore_n 1, 1) := by decide +kernel
theorem dX11_init_132 : decode cX11_init 132 = .ok (.iload_n 1, 1) := by decide +kernel
theorem dX11_init_133 : decode cX11_init 133 = .ok (.iconst 4, 1) := by decide +kernel
theorem dX11_init_134 : decode cX11_init 134 = .ok (.if_icmp .ge 22, 3) := by decide +kernel
theorem dX11_init_137 : decode cX11_init 137 = .ok (.aload_n 0, 1) := by decide +kernel
theorem dX11_init_138 : decode cX11_init 138 = .ok (.getfield 30, 3) := by decide +kernel
theorem dX11_init_141 : decode cX11_init 141 = .ok (.iload_n 1, 1) := by decide +kernel
theorem dX11_init_142 : decode cX11_init 142 = .ok (.new 23, 3) := by decide +kernel
theorem dX11_init_145 : decode cX11_init 145 = .ok (.dup, 1) := by decide +kernel
theorem dX11_init_146 : decode cX11_init 146 = .ok (.invokespecial 25, 3) := by decide +kernel
theorem dX11_init_149 : decode cX11_init 149 = .ok (.aastore, 1) := by decide +kernel
theorem dX11_init_150 : decode cX11_init 150 = .ok (.iinc 1 1, 3) := by decide +kernel
theorem dX11_init_153 : decode cX11_init 153 = .ok (.goto (-21), 3) := by decide +kernel
theorem dX11_init_156 : decode cX11_init 156 = .ok (.return_, 1) := by decide +kernel
set_option maxHeartbeats 4000000 in
set_option maxRecDepth 100000 in
theorem b_X11 (γ : kΓ) (l : Launch) (hγ : γ.2.2.2.1 = γ.2.2.2.2 0) (x : Nat) : kM γ l yX11_init cX11_init 2 none ({ frames := 4, cells := 207, slots := 6205, locals := 85 } : Room) [.ref x] [(x, .inr (10, [.null, .null, .null, .null, .null, .null, .null, .null, .null, .null, .null]))] (fun r w1 => bX γ cD x r w1 ∧ qsl2 w1 1 1 = some (.int 0)) := by
  refine k_ofW (by decide) (Nat.le_of_ble_eq_true rfl) ?_
  intro p e s m below meth c A ls hC hr hlocks hname hw hl
  have hx := hC.1
  have hb := hC.2.1
  have hin : meth.name = "<init>" := hname
  have hl : lv_has ls 2 [(0, .ref x)] := hl
  have hcl : bCl cD γ [] := bCl.nil
  have hgs : ([] : bZ).map Prod.fst = [] := rfl
  have hw : kW γ A ([(x, .inr (10, [.null, .null, .null, .null, .null, .null, .null, .null, .null, .null, .null]))] ++ ([] : bZ).map Prod.snd) s s.heap [] := hw
  generalize ([] : bZ) = G0 at hw hcl hgs
  refine lv_aload_n hx hb dX11_init_0 rfl (lv_at hl 0 rfl) ?_
  refine k_objInit hC gw_28 hl.1 (by decide) (Nat.le_of_ble_eq_true rfl) dX11_init_1 ?_
  refine W.eq (g2 := F0 m 4 ls []) rfl ?_
  refine lv_aload_n hx hb dX11_init_4 rfl (lv_at hl 0 rfl) ?_
  refine k_new (ci := 8) hC hw in_RX8 tyX8 tyX8_ok gw_31 gw_32 gw_2 rfl nf_RX8 (by decide) (by decide) dX11_init_5 (fun xt H hw => ?_)
  refine W.widen (k := 1) (n := 8) (by decide) (by decide) ?_
  refine lv_dup hx hb dX11_init_8 rfl ?_
  refine b_IN 0 nw_33 gw_34 gw_2 gw_35 rfl hd_X8_init hC hw (c_X8_init γ l xt) ⟨by decide, by decide⟩ ⟨by decide, by decide⟩ hl.1 rfl rfl (Nat.le_of_ble_eq_true rfl) dX11_init_9 (fun r w1 H locs hq hw => ?_)
  obtain ⟨xg, rfl, rfl⟩ := hq
  have hw : kW γ A ([(x, .inr (10, [.null, .null, .null, .null, .null, .null, .null, .null, .null, .null, .null])), (xt, .inr (8, [.ref xg, .int 0, .int 0, .int 0, .int 0, .int 0, .long 0, .ref γ.2.2.2.1])), (xg, .inl (γ.2.1 2, 1000, .inl (fun _ => 0)))] ++ G0.map Prod.snd) s H locs := hw.perm b_pm
  refine W.eq (g2 := F0 m 12 ls [.ref xt, .ref x]) rfl ?_
  refine W.widen (k := 2) (n := 1008) (by decide) (by decide) ?_
  refine fs_RX11_10 hC hw hin 0 rfl rfl rfl (Nat.le_of_ble_eq_true rfl) dX11_init_12 (fun H locs hw => ?_)
  have hw : kW γ A ([(x, .inr (10, [.ref xt, .null, .null, .null, .null, .null, .null, .null, .null, .null, .null])), (xt, .inr (8, [.ref xg, .int 0, .int 0, .int 0, .int 0, .int 0, .long 0, .ref γ.2.2.2.1])), (xg, .inl (γ.2.1 2, 1000, .inl (fun _ => 0)))] ++ G0.map Prod.snd) s H locs := hw
  refine lv_aload_n hx hb dX11_init_15 rfl (lv_at hl 0 rfl) ?_
  refine k_new (ci := 9) hC hw in_RX9 tyX9 tyX9_ok gw_71 gw_72 gw_5 rfl nf_RX9 (by decide) (by decide) dX11_init_16 (fun xu H hw => ?_)
  refine W.widen (k := 3) (n := 1011) (by decide) (by decide) ?_
  refine lv_dup hx hb dX11_init_19 rfl ?_
  refine b_I 0 gw_73 gw_74 gw_5 gw_75 rfl hd_X9_init hC hw (b_X9 γ l xu) ⟨by decide, by decide⟩ ⟨by decide, by decide⟩ hl.1 rfl rfl (Nat.le_of_ble_eq_true rfl) dX11_init_20 (fun r w1 H locs hq hw => ?_)
  obtain ⟨rfl, xa, fu, GU, rfl, hgU, hcU, hund⟩ := hq
  have hw := hw.perm b_pm4
  rw [← List.map_append] at hw
  have hcl := hcU.app hcl
  have hgs : (GU ++ G0).map Prod.fst = (List.replicate 16 gs7).flatten ++ [] := by rw [List.map_append, hgU, hgs]
  have hund := b_memf hund (G2 := G0)
  generalize GU ++ G0 = G1 at hw hcl hgs hund
  have hw : kW γ A ([(x, .inr (10, [.ref xt, .null, .null, .null, .null, .null, .null, .null, .null, .null, .null])), (xt, .inr (8, [.ref xg, .int 0, .int 0, .int 0, .int 0, .int 0, .long 0, .ref γ.2.2.2.1])), (xg, .inl (γ.2.1 2, 1000, .inl (fun _ => 0))), (xu, .inr (9, [.ref xa, .int 0, .int 0])), (xa, .inl (γ.2.1 5, 16, .inr (.inr (.inr (.inr fu)))))] ++ G1.map Prod.snd) s H locs := hw
  refine W.eq (g2 := F0 m 23 ls [.ref xu, .ref x]) rfl ?_
  refine W.widen (k := 116) (n := 2259) (by decide) (by decide) ?_
  refine fs_RX11_19 hC hw hin 0 rfl rfl rfl (Nat.le_of_ble_eq_true rfl) dX11_init_23 (fun H locs hw => ?_)
  have hw : kW γ A ([(x, .inr (10, [.ref xt, .ref xu, .null, .null, .null, .null, .null, .null, .null, .null, .null])), (xt, .inr (8, [.ref xg, .int 0, .int 0, .int 0, .int 0, .int 0, .long 0, .ref γ.2.2.2.1])), (xg, .inl (γ.2.1 2, 1000, .inl (fun _ => 0))), (xu, .inr (9, [.ref xa, .int 0, .int 0])), (xa, .inl (γ.2.1 5, 16, .inr (.inr (.inr (.inr fu)))))] ++ G1.map Prod.snd) s H locs := hw
  refine lv_aload_n hx hb dX11_init_26 rfl (lv_at hl 0 rfl) ?_
  refine k_new (ci := 3) hC hw in_RX3 tyX3 tyX3_ok gw_145 gw_146 gw_8 rfl nf_RX3 (by decide) (by decide) dX11_init_27 (fun xn H hw => ?_)
  refine W.widen (k := 117) (n := 2265) (by decide) (by decide) ?_
  refine lv_dup hx hb dX11_init_30 rfl ?_
  refine b_IN 0 nw_147 gw_148 gw_8 gw_149 rfl hd_X3_init hC hw (b_X3 γ l xn) ⟨by decide, by decide⟩ ⟨by decide, by decide⟩ hl.1 rfl rfl (Nat.le_of_ble_eq_true rfl) dX11_init_31 (fun r w1 H locs hq hw => ?_)
  obtain ⟨rfl, Z, fs, Z2, rfl, hgz, hcz, hz⟩ := hq
  have hw := hw.perm b_pm
  rw [← List.map_append] at hw
  have hund := b_memA hund (Z := Z)
  have hnow : ∃ c, (37, xn, c) ∈ Z ++ G1 := ⟨_, List.mem_append_left _ (by rw [hz]; exact List.mem_cons_self)⟩
  have hcl := hcz.app hcl
  have hgs : (Z ++ G1).map Prod.fst = gsP ++ ((List.replicate 16 gs7).flatten ++ []) := by rw [List.map_append, hgz, hgs]
  clear hz hgz hcz
  generalize Z ++ G1 = G2 at hw hcl hgs hund hnow
  have hw : kW γ A ([(x, .inr (10, [.ref xt, .ref xu, .null, .null, .null, .null, .null, .null, .null, .null, .null])), (xt, .inr (8, [.ref xg, .int 0, .int 0, .int 0, .int 0, .int 0, .long 0, .ref γ.2.2.2.1])), (xg, .inl (γ.2.1 2, 1000, .inl (fun _ => 0))), (xu, .inr (9, [.ref xa, .int 0, .int 0])), (xa, .inl (γ.2.1 5, 16, .inr (.inr (.inr (.inr fu)))))] ++ G2.map Prod.snd) s H locs := hw
  refine W.eq (g2 := F0 m 34 ls [.ref xn, .ref x]) rfl ?_
  refine W.widen (k := 126) (n := 2390) (by decide) (by decide) ?_
  refine fs_RX11_26 hC hw hin 0 rfl rfl rfl (Nat.le_of_ble_eq_true rfl) dX11_init_34 (fun H locs hw => ?_)
  have hw : kW γ A ([(x, .inr (10, [.ref xt, .ref xu, .ref xn, .null, .null, .null, .null, .null, .null, .null, .null])), (xt, .inr (8, [.ref xg, .int 0, .int 0, .int 0, .int 0, .int 0, .long 0, .ref γ.2.2.2.1])), (xg, .inl (γ.2.1 2, 1000, .inl (fun _ => 0))), (xu, .inr (9, [.ref xa, .int 0, .int 0])), (xa, .inl (γ.2.1 5, 16, .inr (.inr (.inr (.inr fu)))))] ++ G2.map Prod.snd) s H locs := hw
  refine lv_aload_n hx hb dX11_init_37 rfl (lv_at hl 0 rfl) ?_
  refine lv_iconst (v := 4) hx hb dX11_init_38 (by decide) ?_
  refine k_newq (N' := 4) hC hw gw_145 nw_180 4 rfl (by decide) (by decide) (by decide) (by decide) (by decide) dX11_init_39 (fun xm H hw => ?_)
  have hw : kW γ A ([(x, .inr (10, [.ref xt, .ref xu, .ref xn, .null, .null, .null, .null, .null, .null, .null, .null])), (xt, .inr (8, [.ref xg, .int 0, .int 0, .int 0, .int 0, .int 0, .long 0, .ref γ.2.2.2.1])), (xg, .inl (γ.2.1 2, 1000, .inl (fun _ => 0))), (xu, .inr (9, [.ref xa, .int 0, .int 0])), (xa, .inl (γ.2.1 5, 16, .inr (.inr (.inr (.inr fu))))), (xm, .inl (γ.2.1 4, 4, .inr (.inr (.inr (.inr (fun _ => none))))))] ++ G2.map Prod.snd) s H locs := hw.perm b_pm
  refine W.widen (k := 127) (n := 2394) (by decide) (by decide) ?_
  refine fs_RX11_30 hC hw hin 0 rfl rfl rfl (Nat.le_of_ble_eq_true rfl) dX11_init_42 (fun H locs hw => ?_)
  have hw : kW γ A ([(x, .inr (10, [.ref xt, .ref xu, .ref xn, .ref xm, .null, .null, .null, .null, .null, .null, .null])), (xt, .inr (8, [.ref xg, .int 0, .int 0, .int 0, .int 0, .int 0, .long 0, .ref γ.2.2.2.1])), (xg, .inl (γ.2.1 2, 1000, .inl (fun _ => 0))), (xu, .inr (9, [.ref xa, .int 0, .int 0])), (xa, .inl (γ.2.1 5, 16, .inr (.inr (.inr (.inr fu))))), (xm, .inl (γ.2.1 4, 4, .inr (.inr (.inr (.inr (fun _ => none))))))] ++ G2.map Prod.snd) s H locs := hw
  refine lv_aload_n hx hb dX11_init_45 rfl (lv_at hl 0 rfl) ?_
  refine k_new (ci := 2) hC hw in_RX2 tyX2 tyX2_ok gw_181 gw_182 gw_9 rfl nf_RX2 (by decide) (by decide) dX11_init_46 (fun xc H hw => ?_)
  refine W.widen (k := 128) (n := 2399) (by decide) (by decide) ?_
  refine lv_dup hx hb dX11_init_49 rfl ?_
  refine b_IN 0 nw_183 gw_184 gw_9 gw_185 rfl hd_X2_init hC hw (b_X2 γ l xc) ⟨by decide, by decide⟩ ⟨by decide, by decide⟩ hl.1 rfl rfl (Nat.le_of_ble_eq_true rfl) dX11_init_50 (fun r w1 H locs hq hw => ?_)
  obtain ⟨rfl, xs, Z, fs, Z2, rfl, hgz, hcz, hz⟩ := hq
  have hw := hw.perm b_pm4
  rw [← List.map_append] at hw
  have hund := b_memA hund (Z := Z)
  have hnow := b_memE hnow (Z := Z)
  have hcrs : ∃ c, (30, xs, c) ∈ Z ++ G2 := ⟨_, List.mem_append_left _ (by rw [hz]; exact List.mem_cons_self)⟩
  have hcl := hcz.app hcl
  have hgs : (Z ++ G2).map Prod.fst = gs7 ++ (gsP ++ ((List.replicate 16 gs7).flatten ++ [])) := by rw [List.map_append, hgz, hgs]
  clear hz hgz hcz
  generalize Z ++ G2 = G3 at hw hcl hgs hund hnow hcrs
  have hw : kW γ A ([(x, .inr (10, [.ref xt, .ref xu, .ref xn, .ref xm, .null, .null, .null, .null, .null, .null, .null])), (xt, .inr (8, [.ref xg, .int 0, .int 0, .int 0, .int 0, .int 0, .long 0, .ref γ.2.2.2.1])), (xg, .inl (γ.2.1 2, 1000, .inl (fun _ => 0))), (xu, .inr (9, [.ref xa, .int 0, .int 0])), (xa, .inl (γ.2.1 5, 16, .inr (.inr (.inr (.inr fu))))), (xm, .inl (γ.2.1 4, 4, .inr (.inr (.inr (.inr (fun _ => none)))))), (xc, .inr (2, [.ref xs, .int 0, .int 0, .int 0, .long 0]))] ++ G3.map Prod.snd) s H locs := hw
  refine W.eq (g2 := F0 m 53 ls [.ref xc, .ref x]) rfl ?_
  refine W.widen (k := 135) (n := 2476) (by decide) (by decide) ?_
  refine fs_RX11_37 hC hw hin 0 rfl rfl rfl (Nat.le_of_ble_eq_true rfl) dX11_init_53 (fun H locs hw => ?_)
  have hw : kW γ A ([(x, .inr (10, [.ref xt, .ref xu, .ref xn, .ref xm, .ref xc, .null, .null, .null, .null, .null, .null])), (xt, .inr (8, [.ref xg, .int 0, .int 0, .int 0, .int 0, .int 0, .long 0, .ref γ.2.2.2.1])), (xg, .inl (γ.2.1 2, 1000, .inl (fun _ => 0))), (xu, .inr (9, [.ref xa, .int 0, .int 0])), (xa, .inl (γ.2.1 5, 16, .inr (.inr (.inr (.inr fu))))), (xm, .inl (γ.2.1 4, 4, .inr (.inr (.inr (.inr (fun _ => none)))))), (xc, .inr (2, [.ref xs, .int 0, .int 0, .int 0, .long 0]))] ++ G3.map Prod.snd) s H locs := hw
  refine lv_aload_n hx hb dX11_init_56 rfl (lv_at hl 0 rfl) ?_
  refine k_new (ci := 6) hC hw in_RX6 tyX6 tyX6_ok gw_209 gw_210 gw_10 rfl nf_RX6 (by decide) (by decide) dX11_init_57 (fun xp H hw => ?_)
  refine W.widen (k := 136) (n := 2478) (by decide) (by decide) ?_
  refine lv_dup hx hb dX11_init_60 rfl ?_
  refine b_IN 0 nw_211 gw_212 gw_10 gw_213 rfl hd_X6_init hC hw (c_X6_init γ l xp) ⟨by decide, by decide⟩ ⟨by decide, by decide⟩ hl.1 rfl rfl (Nat.le_of_ble_eq_true rfl) dX11_init_61 (fun r w1 H locs hq hw => ?_)
  obtain ⟨p0, p1, rfl, rfl⟩ := hq
  have hw : kW γ A ([(x, .inr (10, [.ref xt, .ref xu, .ref xn, .ref xm, .ref xc, .null, .null, .null, .null, .null, .null])), (xt, .inr (8, [.ref xg, .int 0, .int 0, .int 0, .int 0, .int 0, .long 0, .ref γ.2.2.2.1])), (xg, .inl (γ.2.1 2, 1000, .inl (fun _ => 0))), (xu, .inr (9, [.ref xa, .int 0, .int 0])), (xa, .inl (γ.2.1 5, 16, .inr (.inr (.inr (.inr fu))))), (xm, .inl (γ.2.1 4, 4, .inr (.inr (.inr (.inr (fun _ => none)))))), (xc, .inr (2, [.ref xs, .int 0, .int 0, .int 0, .long 0])), (xp, .inr (6, [.ref p0, .ref p1])), (p0, .inl (γ.2.1 0, 8, .inl (fun _ => 0))), (p1, .inl (γ.2.1 0, 8, .inl (fun _ => 0)))] ++ G3.map Prod.snd) s H locs := hw.perm b_pm
  refine W.eq (g2 := F0 m 64 ls [.ref xp, .ref x]) rfl ?_
  refine W.widen (k := 138) (n := 2494) (by decide) (by decide) ?_
  refine fs_RX11_44 hC hw hin 0 rfl rfl rfl (Nat.le_of_ble_eq_true rfl) dX11_init_64 (fun H locs hw => ?_)
  have hw : kW γ A ([(x, .inr (10, [.ref xt, .ref xu, .ref xn, .ref xm, .ref xc, .ref xp, .null, .null, .null, .null, .null])), (xt, .inr (8, [.ref xg, .int 0, .int 0, .int 0, .int 0, .int 0, .long 0, .ref γ.2.2.2.1])), (xg, .inl (γ.2.1 2, 1000, .inl (fun _ => 0))), (xu, .inr (9, [.ref xa, .int 0, .int 0])), (xa, .inl (γ.2.1 5, 16, .inr (.inr (.inr (.inr fu))))), (xm, .inl (γ.2.1 4, 4, .inr (.inr (.inr (.inr (fun _ => none)))))), (xc, .inr (2, [.ref xs, .int 0, .int 0, .int 0, .long 0])), (xp, .inr (6, [.ref p0, .ref p1])), (p0, .inl (γ.2.1 0, 8, .inl (fun _ => 0))), (p1, .inl (γ.2.1 0, 8, .inl (fun _ => 0)))] ++ G3.map Prod.snd) s H locs := hw
  refine lv_aload_n hx hb dX11_init_67 rfl (lv_at hl 0 rfl) ?_
  refine k_new (ci := 1) hC hw in_RX1 tyX1 tyX1_ok gw_223 gw_224 gw_11 rfl nf_RX1 (by decide) (by decide) dX11_init_68 (fun xb H hw => ?_)
  refine W.widen (k := 139) (n := 2500) (by decide) (by decide) ?_
  refine lv_dup hx hb dX11_init_71 rfl ?_
  refine b_IN 0 nw_225 gw_226 gw_11 gw_227 rfl hd_X1_init hC hw (c_X1_init γ l xb) ⟨by decide, by decide⟩ ⟨by decide, by decide⟩ hl.1 rfl rfl (Nat.le_of_ble_eq_true rfl) dX11_init_72 (fun r w1 H locs hq hw => ?_)
  obtain ⟨b0, b1, b2, b3, rfl, rfl⟩ := hq
  have hw : kW γ A ([(x, .inr (10, [.ref xt, .ref xu, .ref xn, .ref xm, .ref xc, .ref xp, .null, .null, .null, .null, .null])), (xt, .inr (8, [.ref xg, .int 0, .int 0, .int 0, .int 0, .int 0, .long 0, .ref γ.2.2.2.1])), (xg, .inl (γ.2.1 2, 1000, .inl (fun _ => 0))), (xu, .inr (9, [.ref xa, .int 0, .int 0])), (xa, .inl (γ.2.1 5, 16, .inr (.inr (.inr (.inr fu))))), (xm, .inl (γ.2.1 4, 4, .inr (.inr (.inr (.inr (fun _ => none)))))), (xc, .inr (2, [.ref xs, .int 0, .int 0, .int 0, .long 0])), (xp, .inr (6, [.ref p0, .ref p1])), (p0, .inl (γ.2.1 0, 8, .inl (fun _ => 0))), (p1, .inl (γ.2.1 0, 8, .inl (fun _ => 0))), (xb, .inr (1, [.ref b0, .ref b1, .ref b2, .ref b3, .int 0, .int 0])), (b0, .inl (γ.2.1 0, 5, .inl (fun _ => 0))), (b1, .inl (γ.2.1 0, 40, .inl (fun _ => 0))), (b2, .inl (γ.2.1 3, 5, .inl (fun _ => 0))), (b3, .inl (γ.2.1 0, 880, .inl (fun _ => 0)))] ++ G3.map Prod.snd) s H locs := hw.perm b_pm
  refine W.eq (g2 := F0 m 75 ls [.ref xb, .ref x]) rfl ?_
  refine W.widen (k := 143) (n := 3430) (by decide) (by decide) ?_
  refine fs_RX11_51 hC hw hin 0 rfl rfl rfl (Nat.le_of_ble_eq_true rfl) dX11_init_75 (fun H locs hw => ?_)
  have hw : kW γ A ([(x, .inr (10, [.ref xt, .ref xu, .ref xn, .ref xm, .ref xc, .ref xp, .ref xb, .null, .null, .null, .null])), (xt, .inr (8, [.ref xg, .int 0, .int 0, .int 0, .int 0, .int 0, .long 0, .ref γ.2.2.2.1])), (xg, .inl (γ.2.1 2, 1000, .inl (fun _ => 0))), (xu, .inr (9, [.ref xa, .int 0, .int 0])), (xa, .inl (γ.2.1 5, 16, .inr (.inr (.inr (.inr fu))))), (xm, .inl (γ.2.1 4, 4, .inr (.inr (.inr (.inr (fun _ => none)))))), (xc, .inr (2, [.ref xs, .int 0, .int 0, .int 0, .long 0])), (xp, .inr (6, [.ref p0, .ref p1])), (p0, .inl (γ.2.1 0, 8, .inl (fun _ => 0))), (p1, .inl (γ.2.1 0, 8, .inl (fun _ => 0))), (xb, .inr (1, [.ref b0, .ref b1, .ref b2, .ref b3, .int 0, .int 0])), (b0, .inl (γ.2.1 0, 5, .inl (fun _ => 0))), (b1, .inl (γ.2.1 0, 40, .inl (fun _ => 0))), (b2, .inl (γ.2.1 3, 5, .inl (fun _ => 0))), (b3, .inl (γ.2.1 0, 880, .inl (fun _ => 0)))] ++ G3.map Prod.snd) s H locs := hw
  refine lv_aload_n hx hb dX11_init_78 rfl (lv_at hl 0 rfl) ?_
  refine k_new (ci := 4) hC hw in_RX4 tyX4 tyX4_ok gw_250 gw_251 gw_12 rfl nf_RX4 (by decide) (by decide) dX11_init_79 (fun xr H hw => ?_)
  refine W.widen (k := 144) (n := 3435) (by decide) (by decide) ?_
  refine lv_dup hx hb dX11_init_82 rfl ?_
  refine b_IN 0 nw_252 gw_253 gw_12 gw_254 rfl hd_X4_init hC hw (c_X4_init γ l xr) ⟨by decide, by decide⟩ ⟨by decide, by decide⟩ hl.1 rfl rfl (Nat.le_of_ble_eq_true rfl) dX11_init_83 (fun r w1 H locs hq hw => ?_)
  obtain ⟨r0, r1, r2, rfl, rfl⟩ := hq
  have hw : kW γ A ([(x, .inr (10, [.ref xt, .ref xu, .ref xn, .ref xm, .ref xc, .ref xp, .ref xb, .null, .null, .null, .null])), (xt, .inr (8, [.ref xg, .int 0, .int 0, .int 0, .int 0, .int 0, .long 0, .ref γ.2.2.2.1])), (xg, .inl (γ.2.1 2, 1000, .inl (fun _ => 0))), (xu, .inr (9, [.ref xa, .int 0, .int 0])), (xa, .inl (γ.2.1 5, 16, .inr (.inr (.inr (.inr fu))))), (xm, .inl (γ.2.1 4, 4, .inr (.inr (.inr (.inr (fun _ => none)))))), (xc, .inr (2, [.ref xs, .int 0, .int 0, .int 0, .long 0])), (xp, .inr (6, [.ref p0, .ref p1])), (p0, .inl (γ.2.1 0, 8, .inl (fun _ => 0))), (p1, .inl (γ.2.1 0, 8, .inl (fun _ => 0))), (xb, .inr (1, [.ref b0, .ref b1, .ref b2, .ref b3, .int 0, .int 0])), (b0, .inl (γ.2.1 0, 5, .inl (fun _ => 0))), (b1, .inl (γ.2.1 0, 40, .inl (fun _ => 0))), (b2, .inl (γ.2.1 3, 5, .inl (fun _ => 0))), (b3, .inl (γ.2.1 0, 880, .inl (fun _ => 0))), (xr, .inr (4, [.ref r0, .ref r1, .ref r2, .int 0, .int 0])), (r0, .inl (γ.2.1 0, 5, .inl (fun _ => 0))), (r1, .inl (γ.2.1 0, 5, .inl (fun _ => 0))), (r2, .inl (γ.2.1 0, 5, .inl (fun _ => 0)))] ++ G3.map Prod.snd) s H locs := hw.perm b_pm
  refine W.eq (g2 := F0 m 86 ls [.ref xr, .ref x]) rfl ?_
  refine W.widen (k := 147) (n := 3450) (by decide) (by decide) ?_
  refine fs_RX11_58 hC hw hin 0 rfl rfl rfl (Nat.le_of_ble_eq_true rfl) dX11_init_86 (fun H locs hw => ?_)
  have hw : kW γ A ([(x, .inr (10, [.ref xt, .ref xu, .ref xn, .ref xm, .ref xc, .ref xp, .ref xb, .ref xr, .null, .null, .null])), (xt, .inr (8, [.ref xg, .int 0, .int 0, .int 0, .int 0, .int 0, .long 0, .ref γ.2.2.2.1])), (xg, .inl (γ.2.1 2, 1000, .inl (fun _ => 0))), (xu, .inr (9, [.ref xa, .int 0, .int 0])), (xa, .inl (γ.2.1 5, 16, .inr (.inr (.inr (.inr fu))))), (xm, .inl (γ.2.1 4, 4, .inr (.inr (.inr (.inr (fun _ => none)))))), (xc, .inr (2, [.ref xs, .int 0, .int 0, .int 0, .long 0])), (xp, .inr (6, [.ref p0, .ref p1])), (p0, .inl (γ.2.1 0, 8, .inl (fun _ => 0))), (p1, .inl (γ.2.1 0, 8, .inl (fun _ => 0))), (xb, .inr (1, [.ref b0, .ref b1, .ref b2, .ref b3, .int 0, .int 0])), (b0, .inl (γ.2.1 0, 5, .inl (fun _ => 0))), (b1, .inl (γ.2.1 0, 40, .inl (fun _ => 0))), (b2, .inl (γ.2.1 3, 5, .inl (fun _ => 0))), (b3, .inl (γ.2.1 0, 880, .inl (fun _ => 0))), (xr, .inr (4, [.ref r0, .ref r1, .ref r2, .int 0, .int 0])), (r0, .inl (γ.2.1 0, 5, .inl (fun _ => 0))), (r1, .inl (γ.2.1 0, 5, .inl (fun _ => 0))), (r2, .inl (γ.2.1 0, 5, .inl (fun _ => 0)))] ++ G3.map Prod.snd) s H locs := hw
  refine lv_aload_n hx hb dX11_init_89 rfl (lv_at hl 0 rfl) ?_
  refine k_new (ci := 0) hC hw in_RX0 tyX0 tyX0_ok gw_274 gw_275 gw_13 rfl nf_RX0 (by decide) (by decide) dX11_init_90 (fun xo H hw => ?_)
  refine W.widen (k := 148) (n := 3469) (by decide) (by decide) ?_
  refine lv_dup hx hb dX11_init_93 rfl ?_
  refine b_I 0 gw_276 gw_277 gw_13 gw_278 rfl hd_X0_init hC hw (b_X0 γ l xo) ⟨by decide, by decide⟩ ⟨by decide, by decide⟩ hl.1 rfl rfl (Nat.le_of_ble_eq_true rfl) dX11_init_94 (fun r w1 H locs hq hw => ?_)
  obtain ⟨rfl, Z, fs, Z2, rfl, hgz, hcz, hz⟩ := hq
  have hw := hw.perm b_pm
  rw [← List.map_append] at hw
  have hund := b_memA hund (Z := Z)
  have hnow := b_memE hnow (Z := Z)
  have hcrs := b_memE hcrs (Z := Z)
  have htold : ∃ c, (21, xo, c) ∈ Z ++ G3 := ⟨_, List.mem_append_left _ (by rw [hz]; exact List.mem_cons_self)⟩
  have hcl := hcz.app hcl
  have hgs : (Z ++ G3).map Prod.fst = gsA ++ (gs7 ++ (gsP ++ ((List.replicate 16 gs7).flatten ++ []))) := by rw [List.map_append, hgz, hgs]
  clear hz hgz hcz
  generalize Z ++ G3 = G4 at hw hcl hgs hund hnow hcrs htold
  have hw : kW γ A ([(x, .inr (10, [.ref xt, .ref xu, .ref xn, .ref xm, .ref xc, .ref xp, .ref xb, .ref xr, .null, .null, .null])), (xt, .inr (8, [.ref xg, .int 0, .int 0, .int 0, .int 0, .int 0, .long 0, .ref γ.2.2.2.1])), (xg, .inl (γ.2.1 2, 1000, .inl (fun _ => 0))), (xu, .inr (9, [.ref xa, .int 0, .int 0])), (xa, .inl (γ.2.1 5, 16, .inr (.inr (.inr (.inr fu))))), (xm, .inl (γ.2.1 4, 4, .inr (.inr (.inr (.inr (fun _ => none)))))), (xc, .inr (2, [.ref xs, .int 0, .int 0, .int 0, .long 0])), (xp, .inr (6, [.ref p0, .ref p1])), (p0, .inl (γ.2.1 0, 8, .inl (fun _ => 0))), (p1, .inl (γ.2.1 0, 8, .inl (fun _ => 0))), (xb, .inr (1, [.ref b0, .ref b1, .ref b2, .ref b3, .int 0, .int 0])), (b0, .inl (γ.2.1 0, 5, .inl (fun _ => 0))), (b1, .inl (γ.2.1 0, 40, .inl (fun _ => 0))), (b2, .inl (γ.2.1 3, 5, .inl (fun _ => 0))), (b3, .inl (γ.2.1 0, 880, .inl (fun _ => 0))), (xr, .inr (4, [.ref r0, .ref r1, .ref r2, .int 0, .int 0])), (r0, .inl (γ.2.1 0, 5, .inl (fun _ => 0))), (r1, .inl (γ.2.1 0, 5, .inl (fun _ => 0))), (r2, .inl (γ.2.1 0, 5, .inl (fun _ => 0)))] ++ G4.map Prod.snd) s H locs := hw
  refine W.eq (g2 := F0 m 97 ls [.ref xo, .ref x]) rfl ?_
  refine W.widen (k := 156) (n := 4543) (by decide) (by decide) ?_
  refine fs_RX11_65 hC hw 0 rfl rfl rfl (Nat.le_of_ble_eq_true rfl) dX11_init_97 (fun H locs hw => ?_)
  have hw : kW γ A ([(x, .inr (10, [.ref xt, .ref xu, .ref xn, .ref xm, .ref xc, .ref xp, .ref xb, .ref xr, .null, .ref xo, .null])), (xt, .inr (8, [.ref xg, .int 0, .int 0, .int 0, .int 0, .int 0, .long 0, .ref γ.2.2.2.1])), (xg, .inl (γ.2.1 2, 1000, .inl (fun _ => 0))), (xu, .inr (9, [.ref xa, .int 0, .int 0])), (xa, .inl (γ.2.1 5, 16, .inr (.inr (.inr (.inr fu))))), (xm, .inl (γ.2.1 4, 4, .inr (.inr (.inr (.inr (fun _ => none)))))), (xc, .inr (2, [.ref xs, .int 0, .int 0, .int 0, .long 0])), (xp, .inr (6, [.ref p0, .ref p1])), (p0, .inl (γ.2.1 0, 8, .inl (fun _ => 0))), (p1, .inl (γ.2.1 0, 8, .inl (fun _ => 0))), (xb, .inr (1, [.ref b0, .ref b1, .ref b2, .ref b3, .int 0, .int 0])), (b0, .inl (γ.2.1 0, 5, .inl (fun _ => 0))), (b1, .inl (γ.2.1 0, 40, .inl (fun _ => 0))), (b2, .inl (γ.2.1 3, 5, .inl (fun _ => 0))), (b3, .inl (γ.2.1 0, 880, .inl (fun _ => 0))), (xr, .inr (4, [.ref r0, .ref r1, .ref r2, .int 0, .int 0])), (r0, .inl (γ.2.1 0, 5, .inl (fun _ => 0))), (r1, .inl (γ.2.1 0, 5, .inl (fun _ => 0))), (r2, .inl (γ.2.1 0, 5, .inl (fun _ => 0)))] ++ G4.map Prod.snd) s H locs := hw
  refine lv_aload_n hx hb dX11_init_100 rfl (lv_at hl 0 rfl) ?_
  refine k_new (ci := 0) hC hw in_RX0 tyX0 tyX0_ok gw_274 gw_275 gw_13 rfl nf_RX0 (by decide) (by decide) dX11_init_101 (fun xd H hw => ?_)
  refine W.widen (k := 157) (n := 4562) (by decide) (by decide) ?_
  refine lv_dup hx hb dX11_init_104 rfl ?_
  refine b_I 0 gw_276 gw_277 gw_13 gw_278 rfl hd_X0_init hC hw (b_X0 γ l xd) ⟨by decide, by decide⟩ ⟨by decide, by decide⟩ hl.1 rfl rfl (Nat.le_of_ble_eq_true rfl) dX11_init_105 (fun r w1 H locs hq hw => ?_)
  obtain ⟨rfl, Z, fs, Z2, rfl, hgz, hcz, hz⟩ := hq
  have hw := hw.perm b_pm
  rw [← List.map_append] at hw
  have hund := b_memA hund (Z := Z)
  have hnow := b_memE hnow (Z := Z)
  have hcrs := b_memE hcrs (Z := Z)
  have htold := b_memE htold (Z := Z)
  have hdraft : ∃ c, (21, xd, c) ∈ Z ++ G4 := ⟨_, List.mem_append_left _ (by rw [hz]; exact List.mem_cons_self)⟩
  have hcl := hcz.app hcl
  have hgs : (Z ++ G4).map Prod.fst = gsA ++ (gsA ++ (gs7 ++ (gsP ++ ((List.replicate 16 gs7).flatten ++ [])))) := by rw [List.map_append, hgz, hgs]
  clear hz hgz hcz
  generalize Z ++ G4 = G5 at hw hcl hgs hund hnow hcrs htold hdraft
  have hw : kW γ A ([(x, .inr (10, [.ref xt, .ref xu, .ref xn, .ref xm, .ref xc, .ref xp, .ref xb, .ref xr, .null, .ref xo, .null])), (xt, .inr (8, [.ref xg, .int 0, .int 0, .int 0, .int 0, .int 0, .long 0, .ref γ.2.2.2.1])), (xg, .inl (γ.2.1 2, 1000, .inl (fun _ => 0))), (xu, .inr (9, [.ref xa, .int 0, .int 0])), (xa, .inl (γ.2.1 5, 16, .inr (.inr (.inr (.inr fu))))), (xm, .inl (γ.2.1 4, 4, .inr (.inr (.inr (.inr (fun _ => none)))))), (xc, .inr (2, [.ref xs, .int 0, .int 0, .int 0, .long 0])), (xp, .inr (6, [.ref p0, .ref p1])), (p0, .inl (γ.2.1 0, 8, .inl (fun _ => 0))), (p1, .inl (γ.2.1 0, 8, .inl (fun _ => 0))), (xb, .inr (1, [.ref b0, .ref b1, .ref b2, .ref b3, .int 0, .int 0])), (b0, .inl (γ.2.1 0, 5, .inl (fun _ => 0))), (b1, .inl (γ.2.1 0, 40, .inl (fun _ => 0))), (b2, .inl (γ.2.1 3, 5, .inl (fun _ => 0))), (b3, .inl (γ.2.1 0, 880, .inl (fun _ => 0))), (xr, .inr (4, [.ref r0, .ref r1, .ref r2, .int 0, .int 0])), (r0, .inl (γ.2.1 0, 5, .inl (fun _ => 0))), (r1, .inl (γ.2.1 0, 5, .inl (fun _ => 0))), (r2, .inl (γ.2.1 0, 5, .inl (fun _ => 0)))] ++ G5.map Prod.snd) s H locs := hw
  refine W.eq (g2 := F0 m 108 ls [.ref xd, .ref x]) rfl ?_
  refine W.widen (k := 165) (n := 5636) (by decide) (by decide) ?_
  refine fs_RX11_69 hC hw 0 rfl rfl rfl (Nat.le_of_ble_eq_true rfl) dX11_init_108 (fun H locs hw => ?_)
  have hw : kW γ A ([(x, .inr (10, [.ref xt, .ref xu, .ref xn, .ref xm, .ref xc, .ref xp, .ref xb, .ref xr, .null, .ref xo, .ref xd])), (xt, .inr (8, [.ref xg, .int 0, .int 0, .int 0, .int 0, .int 0, .long 0, .ref γ.2.2.2.1])), (xg, .inl (γ.2.1 2, 1000, .inl (fun _ => 0))), (xu, .inr (9, [.ref xa, .int 0, .int 0])), (xa, .inl (γ.2.1 5, 16, .inr (.inr (.inr (.inr fu))))), (xm, .inl (γ.2.1 4, 4, .inr (.inr (.inr (.inr (fun _ => none)))))), (xc, .inr (2, [.ref xs, .int 0, .int 0, .int 0, .long 0])), (xp, .inr (6, [.ref p0, .ref p1])), (p0, .inl (γ.2.1 0, 8, .inl (fun _ => 0))), (p1, .inl (γ.2.1 0, 8, .inl (fun _ => 0))), (xb, .inr (1, [.ref b0, .ref b1, .ref b2, .ref b3, .int 0, .int 0])), (b0, .inl (γ.2.1 0, 5, .inl (fun _ => 0))), (b1, .inl (γ.2.1 0, 40, .inl (fun _ => 0))), (b2, .inl (γ.2.1 3, 5, .inl (fun _ => 0))), (b3, .inl (γ.2.1 0, 880, .inl (fun _ => 0))), (xr, .inr (4, [.ref r0, .ref r1, .ref r2, .int 0, .int 0])), (r0, .inl (γ.2.1 0, 5, .inl (fun _ => 0))), (r1, .inl (γ.2.1 0, 5, .inl (fun _ => 0))), (r2, .inl (γ.2.1 0, 5, .inl (fun _ => 0)))] ++ G5.map Prod.snd) s H locs := hw
  refine lv_aload_n hx hb dX11_init_111 rfl (lv_at hl 0 rfl) ?_
  refine k_new (ci := 5) hC hw in_RX5 tyX5 tyX5_ok gw_379 gw_380 gw_14 rfl nf_RX5 (by decide) (by decide) dX11_init_112 (fun xv H hw => ?_)
  refine W.widen (k := 166) (n := 5641) (by decide) (by decide) ?_
  refine lv_dup hx hb dX11_init_115 rfl ?_
  refine lv_aload_n hx hb dX11_init_116 rfl (lv_at hl 0 rfl) ?_
  refine fg_RX11_10 hC hw 0 rfl rfl dX11_init_117 ?_
  refine lv_aload_n hx hb dX11_init_120 rfl (lv_at hl 0 rfl) ?_
  refine fg_RX11_65 hC hw 0 rfl rfl dX11_init_121 ?_
  refine b_I 2 gw_381 gw_382 gw_14 gw_383 rfl hd_X5_init hC hw (c_X5_init γ l xv xt xo) ⟨by decide, by decide⟩ ⟨by decide, by decide⟩ hl.1 rfl rfl (Nat.le_of_ble_eq_true rfl) dX11_init_124 (fun r w1 H locs hq hw => ?_)
  obtain ⟨xl, rfl, rfl⟩ := hq
  have hw : kW γ A ([(x, .inr (10, [.ref xt, .ref xu, .ref xn, .ref xm, .ref xc, .ref xp, .ref xb, .ref xr, .null, .ref xo, .ref xd])), (xt, .inr (8, [.ref xg, .int 0, .int 0, .int 0, .int 0, .int 0, .long 0, .ref γ.2.2.2.1])), (xg, .inl (γ.2.1 2, 1000, .inl (fun _ => 0))), (xu, .inr (9, [.ref xa, .int 0, .int 0])), (xa, .inl (γ.2.1 5, 16, .inr (.inr (.inr (.inr fu))))), (xm, .inl (γ.2.1 4, 4, .inr (.inr (.inr (.inr (fun _ => none)))))), (xc, .inr (2, [.ref xs, .int 0, .int 0, .int 0, .long 0])), (xp, .inr (6, [.ref p0, .ref p1])), (p0, .inl (γ.2.1 0, 8, .inl (fun _ => 0))), (p1, .inl (γ.2.1 0, 8, .inl (fun _ => 0))), (xb, .inr (1, [.ref b0, .ref b1, .ref b2, .ref b3, .int 0, .int 0])), (b0, .inl (γ.2.1 0, 5, .inl (fun _ => 0))), (b1, .inl (γ.2.1 0, 40, .inl (fun _ => 0))), (b2, .inl (γ.2.1 3, 5, .inl (fun _ => 0))), (b3, .inl (γ.2.1 0, 880, .inl (fun _ => 0))), (xr, .inr (4, [.ref r0, .ref r1, .ref r2, .int 0, .int 0])), (r0, .inl (γ.2.1 0, 5, .inl (fun _ => 0))), (r1, .inl (γ.2.1 0, 5, .inl (fun _ => 0))), (r2, .inl (γ.2.1 0, 5, .inl (fun _ => 0))), (xv, .inr (5, [.ref xt, .ref xl, .ref xo, .int 0, .int 0])), (xl, .inl (γ.2.1 0, 40, .inl (fun _ => 0)))] ++ G5.map Prod.snd) s H locs := hw.perm b_pm
  refine W.eq (g2 := F0 m 127 ls [.ref xv, .ref x]) rfl ?_
  refine W.widen (k := 167) (n := 5681) (by decide) (by decide) ?_
  refine fs_RX11_77 hC hw hin 0 rfl rfl rfl (Nat.le_of_ble_eq_true rfl) dX11_init_127 (fun H locs hw => ?_)
  have hw : kW γ A ([(x, .inr (10, [.ref xt, .ref xu, .ref xn, .ref xm, .ref xc, .ref xp, .ref xb, .ref xr, .ref xv, .ref xo, .ref xd])), (xt, .inr (8, [.ref xg, .int 0, .int 0, .int 0, .int 0, .int 0, .long 0, .ref γ.2.2.2.1])), (xg, .inl (γ.2.1 2, 1000, .inl (fun _ => 0))), (xu, .inr (9, [.ref xa, .int 0, .int 0])), (xa, .inl (γ.2.1 5, 16, .inr (.inr (.inr (.inr fu))))), (xm, .inl (γ.2.1 4, 4, .inr (.inr (.inr (.inr (fun _ => none)))))), (xc, .inr (2, [.ref xs, .int 0, .int 0, .int 0, .long 0])), (xp, .inr (6, [.ref p0, .ref p1])), (p0, .inl (γ.2.1 0, 8, .inl (fun _ => 0))), (p1, .inl (γ.2.1 0, 8, .inl (fun _ => 0))), (xb, .inr (1, [.ref b0, .ref b1, .ref b2, .ref b3, .int 0, .int 0])), (b0, .inl (γ.2.1 0, 5, .inl (fun _ => 0))), (b1, .inl (γ.2.1 0, 40, .inl (fun _ => 0))), (b2, .inl (γ.2.1 3, 5, .inl (fun _ => 0))), (b3, .inl (γ.2.1 0, 880, .inl (fun _ => 0))), (xr, .inr (4, [.ref r0, .ref r1, .ref r2, .int 0, .int 0])), (r0, .inl (γ.2.1 0, 5, .inl (fun _ => 0))), (r1, .inl (γ.2.1 0, 5, .inl (fun _ => 0))), (r2, .inl (γ.2.1 0, 5, .inl (fun _ => 0))), (xv, .inr (5, [.ref xt, .ref xl, .ref xo, .int 0, .int 0])), (xl, .inl (γ.2.1 0, 40, .inl (fun _ => 0)))] ++ G5.map Prod.snd) s H locs := hw
  refine lv_iconst (v := 0) hx hb dX11_init_130 (by decide) ?_
  refine lv_istore_n (lv' := [(1, .int 0), (0, .ref x)]) hx hb dX11_init_131 rfl hl (by decide) rfl (fun ls hl => ?_)
  have hmk : ∀ j, j < 0 → ∃ b c, (fun _ => none : Nat → Option Nat) j = some b ∧ (37, b, c) ∈ G5 := fun j hj => absurd hj (Nat.not_lt_zero j)
  generalize (fun _ => none : Nat → Option Nat) = f0 at hw hmk
  refine lv_iload_n hx hb dX11_init_132 rfl (lv_at hl 0 rfl) ?_
  refine lv_iconst (v := 4) hx hb dX11_init_133 (by decide) ?_
  refine lv_icmp_ge (tgt := 156) hx hb dX11_init_134 (by decide) (fun h => absurd h (by decide)) (fun _ => ?_)
  refine lv_aload_n hx hb dX11_init_137 rfl (lv_at hl 1 rfl) ?_
  refine fg_RX11_30 hC hw 0 rfl rfl dX11_init_138 ?_
  refine lv_iload_n hx hb dX11_init_141 rfl (lv_at hl 0 rfl) ?_
  refine k_new (ci := 3) hC hw in_RX3 tyX3 tyX3_ok gw_145 gw_146 gw_8 rfl nf_RX3 (by decide) (by decide) dX11_init_142 (fun k0 H hw => ?_)
  refine W.widen (k := 168) (n := 5687) (by decide) (by decide) ?_
  refine lv_dup hx hb dX11_init_145 rfl ?_
  refine b_IN 0 nw_147 gw_148 gw_8 gw_149 rfl hd_X3_init hC hw (b_X3 γ l k0) ⟨by decide, by decide⟩ ⟨by decide, by decide⟩ hl.1 rfl rfl (Nat.le_of_ble_eq_true rfl) dX11_init_146 (fun r w1 H locs hq hw => ?_)
  obtain ⟨rfl, Z, fs, Z2, rfl, hgz, hcz, hz⟩ := hq
  have hz1 : (37, k0, .inr (3, fs)) ∈ Z := by rw [hz]; exact List.mem_cons_self
  have hw := hw.perm b_pm
  rw [← List.map_append] at hw
  have hund := b_memA hund (Z := Z)
  have hnow := b_memE hnow (Z := Z)
  have hcrs := b_memE hcrs (Z := Z)
  have htold := b_memE htold (Z := Z)
  have hdraft := b_memE hdraft (Z := Z)
  have hcl := hcz.app hcl
  have hgs : (Z ++ G5).map Prod.fst = gsP ++ (gsA ++ (gsA ++ (gs7 ++ (gsP ++ ((List.replicate 16 gs7).flatten ++ []))))) := by rw [List.map_append, hgz, hgs]
  have hmk := b_up hmk hz1
  refine W.eq (g2 := F0 m 149 ls [.ref k0, .int 0, .ref xm]) rfl ?_
  refine W.widen (k := 177) (n := 5812) (by decide) (by decide) ?_
  have hpos : ([(x, .inr (10, [.ref xt, .ref xu, .ref xn, .ref xm, .ref xc, .ref xp, .ref xb, .ref xr, .ref xv, .ref xo, .ref xd])), (xt, .inr (8, [.ref xg, .int 0, .int 0, .int 0, .int 0, .int 0, .long 0, .ref γ.2.2.2.1])), (xg, .inl (γ.2.1 2, 1000, .inl (fun _ => 0))), (xu, .inr (9, [.ref xa, .int 0, .int 0])), (xa, .inl (γ.2.1 5, 16, .inr (.inr (.inr (.inr fu))))), (xm, .inl (γ.2.1 4, 4, .inr (.inr (.inr (.inr f0))))), (xc, .inr (2, [.ref xs, .int 0, .int 0, .int 0, .long 0])), (xp, .inr (6, [.ref p0, .ref p1])), (p0, .inl (γ.2.1 0, 8, .inl (fun _ => 0))), (p1, .inl (γ.2.1 0, 8, .inl (fun _ => 0))), (xb, .inr (1, [.ref b0, .ref b1, .ref b2, .ref b3, .int 0, .int 0])), (b0, .inl (γ.2.1 0, 5, .inl (fun _ => 0))), (b1, .inl (γ.2.1 0, 40, .inl (fun _ => 0))), (b2, .inl (γ.2.1 3, 5, .inl (fun _ => 0))), (b3, .inl (γ.2.1 0, 880, .inl (fun _ => 0))), (xr, .inr (4, [.ref r0, .ref r1, .ref r2, .int 0, .int 0])), (r0, .inl (γ.2.1 0, 5, .inl (fun _ => 0))), (r1, .inl (γ.2.1 0, 5, .inl (fun _ => 0))), (r2, .inl (γ.2.1 0, 5, .inl (fun _ => 0))), (xv, .inr (5, [.ref xt, .ref xl, .ref xo, .int 0, .int 0])), (xl, .inl (γ.2.1 0, 40, .inl (fun _ => 0)))] ++ (Z ++ G5).map Prod.snd : va_W)[21]? = some (k0, .inr (3, fs)) := by rw [hz]; rfl
  refine k_astq hC hw 5 4 21 3 rfl rfl hpos rfl (k_in0 (by decide)) dX11_init_149 (fun H locs hw => ?_)
  have hw : kW γ A ([(x, .inr (10, [.ref xt, .ref xu, .ref xn, .ref xm, .ref xc, .ref xp, .ref xb, .ref xr, .ref xv, .ref xo, .ref xd])), (xt, .inr (8, [.ref xg, .int 0, .int 0, .int 0, .int 0, .int 0, .long 0, .ref γ.2.2.2.1])), (xg, .inl (γ.2.1 2, 1000, .inl (fun _ => 0))), (xu, .inr (9, [.ref xa, .int 0, .int 0])), (xa, .inl (γ.2.1 5, 16, .inr (.inr (.inr (.inr fu))))), (xm, .inl (γ.2.1 4, 4, .inr (.inr (.inr (.inr (va_up f0 0 (some k0))))))), (xc, .inr (2, [.ref xs, .int 0, .int 0, .int 0, .long 0])), (xp, .inr (6, [.ref p0, .ref p1])), (p0, .inl (γ.2.1 0, 8, .inl (fun _ => 0))), (p1, .inl (γ.2.1 0, 8, .inl (fun _ => 0))), (xb, .inr (1, [.ref b0, .ref b1, .ref b2, .ref b3, .int 0, .int 0])), (b0, .inl (γ.2.1 0, 5, .inl (fun _ => 0))), (b1, .inl (γ.2.1 0, 40, .inl (fun _ => 0))), (b2, .inl (γ.2.1 3, 5, .inl (fun _ => 0))), (b3, .inl (γ.2.1 0, 880, .inl (fun _ => 0))), (xr, .inr (4, [.ref r0, .ref r1, .ref r2, .int 0, .int 0])), (r0, .inl (γ.2.1 0, 5, .inl (fun _ => 0))), (r1, .inl (γ.2.1 0, 5, .inl (fun _ => 0))), (r2, .inl (γ.2.1 0, 5, .inl (fun _ => 0))), (xv, .inr (5, [.ref xt, .ref xl, .ref xo, .int 0, .int 0])), (xl, .inl (γ.2.1 0, 40, .inl (fun _ => 0)))] ++ (Z ++ G5).map Prod.snd) s H locs := hw
  generalize va_up f0 0 (some k0) = f1 at hw hmk
  clear hpos hz1 hz hgz hcz
  generalize Z ++ G5 = G6 at hw hcl hgs hund hnow hcrs htold hdraft hmk
  refine lv_iinc (v := 1) (lv' := [(1, .int 1), (0, .ref x)]) hx hb dX11_init_150 hl (k := 0) rfl (by decide) (by decide) rfl (fun ls hl => ?_)
  refine lv_goto (tgt := 132) hx hb dX11_init_153 (by decide) ?_
  refine lv_iload_n hx hb dX11_init_132 rfl (lv_at hl 0 rfl) ?_
  refine lv_iconst (v := 4) hx hb dX11_init_133 (by decide) ?_
  refine lv_icmp_ge (tgt := 156) hx hb dX11_init_134 (by decide) (fun h => absurd h (by decide)) (fun _ => ?_)
  refine lv_aload_n hx hb dX11_init_137 rfl (lv_at hl 1 rfl) ?_
  refine fg_RX11_30 hC hw 0 rfl rfl dX11_init_138 ?_
  refine lv_iload_n hx hb dX11_init_141 rfl (lv_at hl 0 rfl) ?_
  refine k_new (ci := 3) hC hw in_RX3 tyX3 tyX3_ok gw_145 gw_146 gw_8 rfl nf_RX3 (by decide) (by decide) dX11_init_142 (fun k1 H hw => ?_)
  refine W.widen (k := 178) (n := 5818) (by decide) (by decide) ?_
  refine lv_dup hx hb dX11_init_145 rfl ?_
  refine b_IN 0 nw_147 gw_148 gw_8 gw_149 rfl hd_X3_init hC hw (b_X3 γ l k1) ⟨by decide, by decide⟩ ⟨by decide, by decide⟩ hl.1 rfl rfl (Nat.le_of_ble_eq_true rfl) dX11_init_146 (fun r w1 H locs hq hw => ?_)
  obtain ⟨rfl, Z, fs, Z2, rfl, hgz, hcz, hz⟩ := hq
  have hz1 : (37, k1, .inr (3, fs)) ∈ Z := by rw [hz]; exact List.mem_cons_self
  have hw := hw.perm b_pm
  rw [← List.map_append] at hw
  have hund := b_memA hund (Z := Z)
  have hnow := b_memE hnow (Z := Z)
  have hcrs := b_memE hcrs (Z := Z)
  have htold := b_memE htold (Z := Z)
  have hdraft := b_memE hdraft (Z := Z)
  have hcl := hcz.app hcl
  have hgs : (Z ++ G6).map Prod.fst = gsP ++ (gsP ++ (gsA ++ (gsA ++ (gs7 ++ (gsP ++ ((List.replicate 16 gs7).flatten ++ [])))))) := by rw [List.map_append, hgz, hgs]
  have hmk := b_up hmk hz1
  refine W.eq (g2 := F0 m 149 ls [.ref k1, .int 1, .ref xm]) rfl ?_
  refine W.widen (k := 187) (n := 5943) (by decide) (by decide) ?_
  have hpos : ([(x, .inr (10, [.ref xt, .ref xu, .ref xn, .ref xm, .ref xc, .ref xp, .ref xb, .ref xr, .ref xv, .ref xo, .ref xd])), (xt, .inr (8, [.ref xg, .int 0, .int 0, .int 0, .int 0, .int 0, .long 0, .ref γ.2.2.2.1])), (xg, .inl (γ.2.1 2, 1000, .inl (fun _ => 0))), (xu, .inr (9, [.ref xa, .int 0, .int 0])), (xa, .inl (γ.2.1 5, 16, .inr (.inr (.inr (.inr fu))))), (xm, .inl (γ.2.1 4, 4, .inr (.inr (.inr (.inr f1))))), (xc, .inr (2, [.ref xs, .int 0, .int 0, .int 0, .long 0])), (xp, .inr (6, [.ref p0, .ref p1])), (p0, .inl (γ.2.1 0, 8, .inl (fun _ => 0))), (p1, .inl (γ.2.1 0, 8, .inl (fun _ => 0))), (xb, .inr (1, [.ref b0, .ref b1, .ref b2, .ref b3, .int 0, .int 0])), (b0, .inl (γ.2.1 0, 5, .inl (fun _ => 0))), (b1, .inl (γ.2.1 0, 40, .inl (fun _ => 0))), (b2, .inl (γ.2.1 3, 5, .inl (fun _ => 0))), (b3, .inl (γ.2.1 0, 880, .inl (fun _ => 0))), (xr, .inr (4, [.ref r0, .ref r1, .ref r2, .int 0, .int 0])), (r0, .inl (γ.2.1 0, 5, .inl (fun _ => 0))), (r1, .inl (γ.2.1 0, 5, .inl (fun _ => 0))), (r2, .inl (γ.2.1 0, 5, .inl (fun _ => 0))), (xv, .inr (5, [.ref xt, .ref xl, .ref xo, .int 0, .int 0])), (xl, .inl (γ.2.1 0, 40, .inl (fun _ => 0)))] ++ (Z ++ G6).map Prod.snd : va_W)[21]? = some (k1, .inr (3, fs)) := by rw [hz]; rfl
  refine k_astq hC hw 5 4 21 3 rfl rfl hpos rfl (k_in0 (by decide)) dX11_init_149 (fun H locs hw => ?_)
  have hw : kW γ A ([(x, .inr (10, [.ref xt, .ref xu, .ref xn, .ref xm, .ref xc, .ref xp, .ref xb, .ref xr, .ref xv, .ref xo, .ref xd])), (xt, .inr (8, [.ref xg, .int 0, .int 0, .int 0, .int 0, .int 0, .long 0, .ref γ.2.2.2.1])), (xg, .inl (γ.2.1 2, 1000, .inl (fun _ => 0))), (xu, .inr (9, [.ref xa, .int 0, .int 0])), (xa, .inl (γ.2.1 5, 16, .inr (.inr (.inr (.inr fu))))), (xm, .inl (γ.2.1 4, 4, .inr (.inr (.inr (.inr (va_up f1 1 (some k1))))))), (xc, .inr (2, [.ref xs, .int 0, .int 0, .int 0, .long 0])), (xp, .inr (6, [.ref p0, .ref p1])), (p0, .inl (γ.2.1 0, 8, .inl (fun _ => 0))), (p1, .inl (γ.2.1 0, 8, .inl (fun _ => 0))), (xb, .inr (1, [.ref b0, .ref b1, .ref b2, .ref b3, .int 0, .int 0])), (b0, .inl (γ.2.1 0, 5, .inl (fun _ => 0))), (b1, .inl (γ.2.1 0, 40, .inl (fun _ => 0))), (b2, .inl (γ.2.1 3, 5, .inl (fun _ => 0))), (b3, .inl (γ.2.1 0, 880, .inl (fun _ => 0))), (xr, .inr (4, [.ref r0, .ref r1, .ref r2, .int 0, .int 0])), (r0, .inl (γ.2.1 0, 5, .inl (fun _ => 0))), (r1, .inl (γ.2.1 0, 5, .inl (fun _ => 0))), (r2, .inl (γ.2.1 0, 5, .inl (fun _ => 0))), (xv, .inr (5, [.ref xt, .ref xl, .ref xo, .int 0, .int 0])), (xl, .inl (γ.2.1 0, 40, .inl (fun _ => 0)))] ++ (Z ++ G6).map Prod.snd) s H locs := hw
  generalize va_up f1 1 (some k1) = f2 at hw hmk
  clear hpos hz1 hz hgz hcz
  generalize Z ++ G6 = G7 at hw hcl hgs hund hnow hcrs htold hdraft hmk
  refine lv_iinc (v := 2) (lv' := [(1, .int 2), (0, .ref x)]) hx hb dX11_init_150 hl (k := 0) rfl (by decide) (by decide) rfl (fun ls hl => ?_)
  refine lv_goto (tgt := 132) hx hb dX11_init_153 (by decide) ?_
  refine lv_iload_n hx hb dX11_init_132 rfl (lv_at hl 0 rfl) ?_
  refine lv_iconst (v := 4) hx hb dX11_init_133 (by decide) ?_
  refine lv_icmp_ge (tgt := 156) hx hb dX11_init_134 (by decide) (fun h => absurd h (by decide)) (fun _ => ?_)
  refine lv_aload_n hx hb dX11_init_137 rfl (lv_at hl 1 rfl) ?_
  refine fg_RX11_30 hC hw 0 rfl rfl dX11_init_138 ?_
  refine lv_iload_n hx hb dX11_init_141 rfl (lv_at hl 0 rfl) ?_
  refine k_new (ci := 3) hC hw in_RX3 tyX3 tyX3_ok gw_145 gw_146 gw_8 rfl nf_RX3 (by decide) (by decide) dX11_init_142 (fun k2 H hw => ?_)
  refine W.widen (k := 188) (n := 5949) (by decide) (by decide) ?_
  refine lv_dup hx hb dX11_init_145 rfl ?_
  refine b_IN 0 nw_147 gw_148 gw_8 gw_149 rfl hd_X3_init hC hw (b_X3 γ l k2) ⟨by decide, by decide⟩ ⟨by decide, by decide⟩ hl.1 rfl rfl (Nat.le_of_ble_eq_true rfl) dX11_init_146 (fun r w1 H locs hq hw => ?_)
  obtain ⟨rfl, Z, fs, Z2, rfl, hgz, hcz, hz⟩ := hq
  have hz1 : (37, k2, .inr (3, fs)) ∈ Z := by rw [hz]; exact List.mem_cons_self
  have hw := hw.perm b_pm
  rw [← List.map_append] at hw
  have hund := b_memA hund (Z := Z)
  have hnow := b_memE hnow (Z := Z)
  have hcrs := b_memE hcrs (Z := Z)
  have htold := b_memE htold (Z := Z)
  have hdraft := b_memE hdraft (Z := Z)
  have hcl := hcz.app hcl
  have hgs : (Z ++ G7).map Prod.fst = gsP ++ (gsP ++ (gsP ++ (gsA ++ (gsA ++ (gs7 ++ (gsP ++ ((List.replicate 16 gs7).flatten ++ []))))))) := by rw [List.map_append, hgz, hgs]
  have hmk := b_up hmk hz1
  refine W.eq (g2 := F0 m 149 ls [.ref k2, .int 2, .ref xm]) rfl ?_
  refine W.widen (k := 197) (n := 6074) (by decide) (by decide) ?_
  have hpos : ([(x, .inr (10, [.ref xt, .ref xu, .ref xn, .ref xm, .ref xc, .ref xp, .ref xb, .ref xr, .ref xv, .ref xo, .ref xd])), (xt, .inr (8, [.ref xg, .int 0, .int 0, .int 0, .int 0, .int 0, .long 0, .ref γ.2.2.2.1])), (xg, .inl (γ.2.1 2, 1000, .inl (fun _ => 0))), (xu, .inr (9, [.ref xa, .int 0, .int 0])), (xa, .inl (γ.2.1 5, 16, .inr (.inr (.inr (.inr fu))))), (xm, .inl (γ.2.1 4, 4, .inr (.inr (.inr (.inr f2))))), (xc, .inr (2, [.ref xs, .int 0, .int 0, .int 0, .long 0])), (xp, .inr (6, [.ref p0, .ref p1])), (p0, .inl (γ.2.1 0, 8, .inl (fun _ => 0))), (p1, .inl (γ.2.1 0, 8, .inl (fun _ => 0))), (xb, .inr (1, [.ref b0, .ref b1, .ref b2, .ref b3, .int 0, .int 0])), (b0, .inl (γ.2.1 0, 5, .inl (fun _ => 0))), (b1, .inl (γ.2.1 0, 40, .inl (fun _ => 0))), (b2, .inl (γ.2.1 3, 5, .inl (fun _ => 0))), (b3, .inl (γ.2.1 0, 880, .inl (fun _ => 0))), (xr, .inr (4, [.ref r0, .ref r1, .ref r2, .int 0, .int 0])), (r0, .inl (γ.2.1 0, 5, .inl (fun _ => 0))), (r1, .inl (γ.2.1 0, 5, .inl (fun _ => 0))), (r2, .inl (γ.2.1 0, 5, .inl (fun _ => 0))), (xv, .inr (5, [.ref xt, .ref xl, .ref xo, .int 0, .int 0])), (xl, .inl (γ.2.1 0, 40, .inl (fun _ => 0)))] ++ (Z ++ G7).map Prod.snd : va_W)[21]? = some (k2, .inr (3, fs)) := by rw [hz]; rfl
  refine k_astq hC hw 5 4 21 3 rfl rfl hpos rfl (k_in0 (by decide)) dX11_init_149 (fun H locs hw => ?_)
  have hw : kW γ A ([(x, .inr (10, [.ref xt, .ref xu, .ref xn, .ref xm, .ref xc, .ref xp, .ref xb, .ref xr, .ref xv, .ref xo, .ref xd])), (xt, .inr (8, [.ref xg, .int 0, .int 0, .int 0, .int 0, .int 0, .long 0, .ref γ.2.2.2.1])), (xg, .inl (γ.2.1 2, 1000, .inl (fun _ => 0))), (xu, .inr (9, [.ref xa, .int 0, .int 0])), (xa, .inl (γ.2.1 5, 16, .inr (.inr (.inr (.inr fu))))), (xm, .inl (γ.2.1 4, 4, .inr (.inr (.inr (.inr (va_up f2 2 (some k2))))))), (xc, .inr (2, [.ref xs, .int 0, .int 0, .int 0, .long 0])), (xp, .inr (6, [.ref p0, .ref p1])), (p0, .inl (γ.2.1 0, 8, .inl (fun _ => 0))), (p1, .inl (γ.2.1 0, 8, .inl (fun _ => 0))), (xb, .inr (1, [.ref b0, .ref b1, .ref b2, .ref b3, .int 0, .int 0])), (b0, .inl (γ.2.1 0, 5, .inl (fun _ => 0))), (b1, .inl (γ.2.1 0, 40, .inl (fun _ => 0))), (b2, .inl (γ.2.1 3, 5, .inl (fun _ => 0))), (b3, .inl (γ.2.1 0, 880, .inl (fun _ => 0))), (xr, .inr (4, [.ref r0, .ref r1, .ref r2, .int 0, .int 0])), (r0, .inl (γ.2.1 0, 5, .inl (fun _ => 0))), (r1, .inl (γ.2.1 0, 5, .inl (fun _ => 0))), (r2, .inl (γ.2.1 0, 5, .inl (fun _ => 0))), (xv, .inr (5, [.ref xt, .ref xl, .ref xo, .int 0, .int 0])), (xl, .inl (γ.2.1 0, 40, .inl (fun _ => 0)))] ++ (Z ++ G7).map Prod.snd) s H locs := hw
  generalize va_up f2 2 (some k2) = f3 at hw hmk
  clear hpos hz1 hz hgz hcz
  generalize Z ++ G7 = G8 at hw hcl hgs hund hnow hcrs htold hdraft hmk
  refine lv_iinc (v := 3) (lv' := [(1, .int 3), (0, .ref x)]) hx hb dX11_init_150 hl (k := 0) rfl (by decide) (by decide) rfl (fun ls hl => ?_)
  refine lv_goto (tgt := 132) hx hb dX11_init_153 (by decide) ?_
  refine lv_iload_n hx hb dX11_init_132 rfl (lv_at hl 0 rfl) ?_
  refine lv_iconst (v := 4) hx hb dX11_init_133 (by decide) ?_
  refine lv_icmp_ge (tgt := 156) hx hb dX11_init_134 (by decide) (fun h => absurd h (by decide)) (fun _ => ?_)
  refine lv_aload_n hx hb dX11_init_137 rfl (lv_at hl 1 rfl) ?_
  refine fg_RX11_30 hC hw 0 rfl rfl dX11_init_138 ?_
  refine lv_iload_n hx hb dX11_init_141 rfl (lv_at hl 0 rfl) ?_
  refine k_new (ci := 3) hC hw in_RX3 tyX3 tyX3_ok gw_145 gw_146 gw_8 rfl nf_RX3 (by decide) (by decide) dX11_init_142 (fun k3 H hw => ?_)
  refine W.widen (k := 198) (n := 6080) (by decide) (by decide) ?_
  refine lv_dup hx hb dX11_init_145 rfl ?_
  refine b_IN 0 nw_147 gw_148 gw_8 gw_149 rfl hd_X3_init hC hw (b_X3 γ l k3) ⟨by decide, by decide⟩ ⟨by decide, by decide⟩ hl.1 rfl rfl (Nat.le_of_ble_eq_true rfl) dX11_init_146 (fun r w1 H locs hq hw => ?_)
  obtain ⟨rfl, Z, fs, Z2, rfl, hgz, hcz, hz⟩ := hq
  have hz1 : (37, k3, .inr (3, fs)) ∈ Z := by rw [hz]; exact List.mem_cons_self
  have hw := hw.perm b_pm
  rw [← List.map_append] at hw
  have hund := b_memA hund (Z := Z)
  have hnow := b_memE hnow (Z := Z)
  have hcrs := b_memE hcrs (Z := Z)
  have htold := b_memE htold (Z := Z)
  have hdraft := b_memE hdraft (Z := Z)
  have hcl := hcz.app hcl
  have hgs : (Z ++ G8).map Prod.fst = gsP ++ (gsP ++ (gsP ++ (gsP ++ (gsA ++ (gsA ++ (gs7 ++ (gsP ++ ((List.replicate 16 gs7).flatten ++ [])))))))) := by rw [List.map_append, hgz, hgs]
  have hmk := b_up hmk hz1
  refine W.eq (g2 := F0 m 149 ls [.ref k3, .int 3, .ref xm]) rfl ?_
  refine W.widen (k := 207) (n := 6205) (by decide) (by decide) ?_
  have hpos : ([(x, .inr (10, [.ref xt, .ref xu, .ref xn, .ref xm, .ref xc, .ref xp, .ref xb, .ref xr, .ref xv, .ref xo, .ref xd])), (xt, .inr (8, [.ref xg, .int 0, .int 0, .int 0, .int 0, .int 0, .long 0, .ref γ.2.2.2.1])), (xg, .inl (γ.2.1 2, 1000, .inl (fun _ => 0))), (xu, .inr (9, [.ref xa, .int 0, .int 0])), (xa, .inl (γ.2.1 5, 16, .inr (.inr (.inr (.inr fu))))), (xm, .inl (γ.2.1 4, 4, .inr (.inr (.inr (.inr f3))))), (xc, .inr (2, [.ref xs, .int 0, .int 0, .int 0, .long 0])), (xp, .inr (6, [.ref p0, .ref p1])), (p0, .inl (γ.2.1 0, 8, .inl (fun _ => 0))), (p1, .inl (γ.2.1 0, 8, .inl (fun _ => 0))), (xb, .inr (1, [.ref b0, .ref b1, .ref b2, .ref b3, .int 0, .int 0])), (b0, .inl (γ.2.1 0, 5, .inl (fun _ => 0))), (b1, .inl (γ.2.1 0, 40, .inl (fun _ => 0))), (b2, .inl (γ.2.1 3, 5, .inl (fun _ => 0))), (b3, .inl (γ.2.1 0, 880, .inl (fun _ => 0))), (xr, .inr (4, [.ref r0, .ref r1, .ref r2, .int 0, .int 0])), (r0, .inl (γ.2.1 0, 5, .inl (fun _ => 0))), (r1, .inl (γ.2.1 0, 5, .inl (fun _ => 0))), (r2, .inl (γ.2.1 0, 5, .inl (fun _ => 0))), (xv, .inr (5, [.ref xt, .ref xl, .ref xo, .int 0, .int 0])), (xl, .inl (γ.2.1 0, 40, .inl (fun _ => 0)))] ++ (Z ++ G8).map Prod.snd : va_W)[21]? = some (k3, .inr (3, fs)) := by rw [hz]; rfl
  refine k_astq hC hw 5 4 21 3 rfl rfl hpos rfl (k_in0 (by decide)) dX11_init_149 (fun H locs hw => ?_)
  have hw : kW γ A ([(x, .inr (10, [.ref xt, .ref xu, .ref xn, .ref xm, .ref xc, .ref xp, .ref xb, .ref xr, .ref xv, .ref xo, .ref xd])), (xt, .inr (8, [.ref xg, .int 0, .int 0, .int 0, .int 0, .int 0, .long 0, .ref γ.2.2.2.1])), (xg, .inl (γ.2.1 2, 1000, .inl (fun _ => 0))), (xu, .inr (9, [.ref xa, .int 0, .int 0])), (xa, .inl (γ.2.1 5, 16, .inr (.inr (.inr (.inr fu))))), (xm, .inl (γ.2.1 4, 4, .inr (.inr (.inr (.inr (va_up f3 3 (some k3))))))), (xc, .inr (2, [.ref xs, .int 0, .int 0, .int 0, .long 0])), (xp, .inr (6, [.ref p0, .ref p1])), (p0, .inl (γ.2.1 0, 8, .inl (fun _ => 0))), (p1, .inl (γ.2.1 0, 8, .inl (fun _ => 0))), (xb, .inr (1, [.ref b0, .ref b1, .ref b2, .ref b3, .int 0, .int 0])), (b0, .inl (γ.2.1 0, 5, .inl (fun _ => 0))), (b1, .inl (γ.2.1 0, 40, .inl (fun _ => 0))), (b2, .inl (γ.2.1 3, 5, .inl (fun _ => 0))), (b3, .inl (γ.2.1 0, 880, .inl (fun _ => 0))), (xr, .inr (4, [.ref r0, .ref r1, .ref r2, .int 0, .int 0])), (r0, .inl (γ.2.1 0, 5, .inl (fun _ => 0))), (r1, .inl (γ.2.1 0, 5, .inl (fun _ => 0))), (r2, .inl (γ.2.1 0, 5, .inl (fun _ => 0))), (xv, .inr (5, [.ref xt, .ref xl, .ref xo, .int 0, .int 0])), (xl, .inl (γ.2.1 0, 40, .inl (fun _ => 0)))] ++ (Z ++ G8).map Prod.snd) s H locs := hw
  generalize va_up f3 3 (some k3) = f4 at hw hmk
  clear hpos hz1 hz hgz hcz
  generalize Z ++ G8 = G9 at hw hcl hgs hund hnow hcrs htold hdraft hmk
  refine lv_iinc (v := 4) (lv' := [(1, .int 4), (0, .ref x)]) hx hb dX11_init_150 hl (k := 0) rfl (by decide) (by decide) rfl (fun ls hl => ?_)
  refine lv_goto (tgt := 132) hx hb dX11_init_153 (by decide) ?_
  refine lv_iload_n hx hb dX11_init_132 rfl (lv_at hl 0 rfl) ?_
  refine lv_iconst (v := 4) hx hb dX11_init_133 (by decide) ?_
  refine lv_icmp_ge (tgt := 156) hx hb dX11_init_134 (by decide) (fun _ => ?_) (fun h => absurd (by decide) h)
  have hZ : (([(0, x, .inr (10, [.ref xt, .ref xu, .ref xn, .ref xm, .ref xc, .ref xp, .ref xb, .ref xr, .ref xv, .ref xo, .ref xd])), (1, xt, .inr (8, [.ref xg, .int 0, .int 0, .int 0, .int 0, .int 0, .long 0, .ref γ.2.2.2.1])), (2, xg, .inl (γ.2.1 2, 1000, .inl (fun _ => 0))), (3, xu, .inr (9, [.ref xa, .int 0, .int 0])), (4, xa, .inl (γ.2.1 5, 16, .inr (.inr (.inr (.inr fu))))), (5, xm, .inl (γ.2.1 4, 4, .inr (.inr (.inr (.inr f4))))), (6, xc, .inr (2, [.ref xs, .int 0, .int 0, .int 0, .long 0])), (7, xp, .inr (6, [.ref p0, .ref p1])), (8, p0, .inl (γ.2.1 0, 8, .inl (fun _ => 0))), (9, p1, .inl (γ.2.1 0, 8, .inl (fun _ => 0))), (10, xb, .inr (1, [.ref b0, .ref b1, .ref b2, .ref b3, .int 0, .int 0])), (11, b0, .inl (γ.2.1 0, 5, .inl (fun _ => 0))), (12, b1, .inl (γ.2.1 0, 40, .inl (fun _ => 0))), (13, b2, .inl (γ.2.1 3, 5, .inl (fun _ => 0))), (14, b3, .inl (γ.2.1 0, 880, .inl (fun _ => 0))), (15, xr, .inr (4, [.ref r0, .ref r1, .ref r2, .int 0, .int 0])), (16, r0, .inl (γ.2.1 0, 5, .inl (fun _ => 0))), (17, r1, .inl (γ.2.1 0, 5, .inl (fun _ => 0))), (18, r2, .inl (γ.2.1 0, 5, .inl (fun _ => 0))), (19, xv, .inr (5, [.ref xt, .ref xl, .ref xo, .int 0, .int 0])), (20, xl, .inl (γ.2.1 0, 40, .inl (fun _ => 0)))] : bZ) ++ G9).map Prod.fst = cD.1 := by rw [List.map_append, hgs]; rfl
  have hB : bOk cD γ (qinR cD γ (((([(0, x, .inr (10, [.ref xt, .ref xu, .ref xn, .ref xm, .ref xc, .ref xp, .ref xb, .ref xr, .ref xv, .ref xo, .ref xd])), (1, xt, .inr (8, [.ref xg, .int 0, .int 0, .int 0, .int 0, .int 0, .long 0, .ref γ.2.2.2.1])), (2, xg, .inl (γ.2.1 2, 1000, .inl (fun _ => 0))), (3, xu, .inr (9, [.ref xa, .int 0, .int 0])), (4, xa, .inl (γ.2.1 5, 16, .inr (.inr (.inr (.inr fu))))), (5, xm, .inl (γ.2.1 4, 4, .inr (.inr (.inr (.inr f4))))), (6, xc, .inr (2, [.ref xs, .int 0, .int 0, .int 0, .long 0])), (7, xp, .inr (6, [.ref p0, .ref p1])), (8, p0, .inl (γ.2.1 0, 8, .inl (fun _ => 0))), (9, p1, .inl (γ.2.1 0, 8, .inl (fun _ => 0))), (10, xb, .inr (1, [.ref b0, .ref b1, .ref b2, .ref b3, .int 0, .int 0])), (11, b0, .inl (γ.2.1 0, 5, .inl (fun _ => 0))), (12, b1, .inl (γ.2.1 0, 40, .inl (fun _ => 0))), (13, b2, .inl (γ.2.1 3, 5, .inl (fun _ => 0))), (14, b3, .inl (γ.2.1 0, 880, .inl (fun _ => 0))), (15, xr, .inr (4, [.ref r0, .ref r1, .ref r2, .int 0, .int 0])), (16, r0, .inl (γ.2.1 0, 5, .inl (fun _ => 0))), (17, r1, .inl (γ.2.1 0, 5, .inl (fun _ => 0))), (18, r2, .inl (γ.2.1 0, 5, .inl (fun _ => 0))), (19, xv, .inr (5, [.ref xt, .ref xl, .ref xo, .int 0, .int 0])), (20, xl, .inl (γ.2.1 0, 40, .inl (fun _ => 0)))] : bZ) ++ G9).map Prod.snd).map Prod.fst)) ([(0, x, .inr (10, [.ref xt, .ref xu, .ref xn, .ref xm, .ref xc, .ref xp, .ref xb, .ref xr, .ref xv, .ref xo, .ref xd])), (1, xt, .inr (8, [.ref xg, .int 0, .int 0, .int 0, .int 0, .int 0, .long 0, .ref γ.2.2.2.1])), (2, xg, .inl (γ.2.1 2, 1000, .inl (fun _ => 0))), (3, xu, .inr (9, [.ref xa, .int 0, .int 0])), (4, xa, .inl (γ.2.1 5, 16, .inr (.inr (.inr (.inr fu))))), (5, xm, .inl (γ.2.1 4, 4, .inr (.inr (.inr (.inr f4))))), (6, xc, .inr (2, [.ref xs, .int 0, .int 0, .int 0, .long 0])), (7, xp, .inr (6, [.ref p0, .ref p1])), (8, p0, .inl (γ.2.1 0, 8, .inl (fun _ => 0))), (9, p1, .inl (γ.2.1 0, 8, .inl (fun _ => 0))), (10, xb, .inr (1, [.ref b0, .ref b1, .ref b2, .ref b3, .int 0, .int 0])), (11, b0, .inl (γ.2.1 0, 5, .inl (fun _ => 0))), (12, b1, .inl (γ.2.1 0, 40, .inl (fun _ => 0))), (13, b2, .inl (γ.2.1 3, 5, .inl (fun _ => 0))), (14, b3, .inl (γ.2.1 0, 880, .inl (fun _ => 0))), (15, xr, .inr (4, [.ref r0, .ref r1, .ref r2, .int 0, .int 0])), (16, r0, .inl (γ.2.1 0, 5, .inl (fun _ => 0))), (17, r1, .inl (γ.2.1 0, 5, .inl (fun _ => 0))), (18, r2, .inl (γ.2.1 0, 5, .inl (fun _ => 0))), (19, xv, .inr (5, [.ref xt, .ref xl, .ref xo, .int 0, .int 0])), (20, xl, .inl (γ.2.1 0, 40, .inl (fun _ => 0)))] : bZ) := (b_cons (b_obj (tys := [(2, 1, 0), (2, 3, 0), (2, 37, 0), (2, 5, 0), (2, 6, 0), (2, 7, 0), (2, 10, 0), (2, 15, 0), (2, 19, 0), (2, 21, 0), (2, 21, 0)]) rfl rfl rfl (by decide) ⟨b_ref (b_in hZ (List.mem_append_left _ (.tail _ (.head _)))), b_ref (b_in hZ (List.mem_append_left _ (.tail _ (.tail _ (.tail _ (.head _)))))), b_ref (hnow.elim (fun c h => b_in hZ (z := (_, _, c)) (List.mem_append_right _ h))), b_ref (b_in hZ (List.mem_append_left _ (.tail _ (.tail _ (.tail _ (.tail _ (.tail _ (.head _)))))))), b_ref (b_in hZ (List.mem_append_left _ (.tail _ (.tail _ (.tail _ (.tail _ (.tail _ (.tail _ (.head _))))))))), b_ref (b_in hZ (List.mem_append_left _ (.tail _ (.tail _ (.tail _ (.tail _ (.tail _ (.tail _ (.tail _ (.head _)))))))))), b_ref (b_in hZ (List.mem_append_left _ (.tail _ (.tail _ (.tail _ (.tail _ (.tail _ (.tail _ (.tail _ (.tail _ (.tail _ (.tail _ (.head _))))))))))))), b_ref (b_in hZ (List.mem_append_left _ (.tail _ (.tail _ (.tail _ (.tail _ (.tail _ (.tail _ (.tail _ (.tail _ (.tail _ (.tail _ (.tail _ (.tail _ (.tail _ (.tail _ (.tail _ (.head _)))))))))))))))))), b_ref (b_in hZ (List.mem_append_left _ (.tail _ (.tail _ (.tail _ (.tail _ (.tail _ (.tail _ (.tail _ (.tail _ (.tail _ (.tail _ (.tail _ (.tail _ (.tail _ (.tail _ (.tail _ (.tail _ (.tail _ (.tail _ (.tail _ (.head _)))))))))))))))))))))), b_ref (htold.elim (fun c h => b_in hZ (z := (_, _, c)) (List.mem_append_right _ h))), b_ref (hdraft.elim (fun c h => b_in hZ (z := (_, _, c)) (List.mem_append_right _ h))), trivial⟩) (b_cons (b_obj (tys := [(2, 2, 0), (0, 0, 1000), (0, 0, 1000), (0, 0, 1000), (0, (-2147483648), 2147483647), (0, (-2147483648), 2147483647), (1, (-9223372036854775808), 9223372036854775807), (2, 77, 0)]) rfl rfl rfl (by decide) ⟨b_ref (b_in hZ (List.mem_append_left _ (.tail _ (.tail _ (.head _))))), b_int (by decide), b_int (by decide), b_int (by decide), b_int (by decide), b_int (by decide), b_lng (by decide), b_ref (.inl ⟨rfl, 0, by decide, hγ⟩), trivial⟩) (b_cons (b_arrI rfl (.inr (.inl rfl)) (by decide) (fun _ _ => by decide)) (b_cons (b_obj (tys := [(2, 4, 0), (0, 0, 15), (0, 0, 16)]) rfl rfl rfl (by decide) ⟨b_ref (b_in hZ (List.mem_append_left _ (.tail _ (.tail _ (.tail _ (.tail _ (.head _))))))), b_int (by decide), b_int (by decide), trivial⟩) (b_cons (b_arrQ rfl (.inr rfl) (by decide) (fun k hk => (hund k hk).elim (fun b h => h.elim (fun c h => ⟨b, h.1, b_in hZ (z := (_, _, c)) (List.mem_append_right _ h.2)⟩)))) (b_cons (b_arrQ rfl (.inl rfl) (by decide) (fun k hk => (hmk k hk).elim (fun b h => h.elim (fun c h => ⟨b, h.1, b_in hZ (z := (_, _, c)) (List.mem_append_right _ h.2)⟩)))) (b_cons (b_obj (tys := [(2, 30, 0), (0, (-2147483648), 2147483647), (0, (-2147483648), 2147483647), (0, (-2147483648), 2147483647), (1, 0, 2147483647)]) rfl rfl rfl (by decide) ⟨b_ref (hcrs.elim (fun c h => b_in hZ (z := (_, _, c)) (List.mem_append_right _ h))), b_int (by decide), b_int (by decide), b_int (by decide), b_lng (by decide), trivial⟩) (b_cons (b_obj (tys := [(2, 8, 0), (2, 9, 0)]) rfl rfl rfl (by decide) ⟨b_ref (b_in hZ (List.mem_append_left _ (.tail _ (.tail _ (.tail _ (.tail _ (.tail _ (.tail _ (.tail _ (.tail _ (.head _))))))))))), b_ref (b_in hZ (List.mem_append_left _ (.tail _ (.tail _ (.tail _ (.tail _ (.tail _ (.tail _ (.tail _ (.tail _ (.tail _ (.head _)))))))))))), trivial⟩) (b_cons (b_arrI rfl (.inl rfl) (by decide) (fun _ _ => by decide)) (b_cons (b_arrI rfl (.inl rfl) (by decide) (fun _ _ => by decide)) (b_cons (b_obj (tys := [(2, 11, 0), (2, 12, 0), (2, 13, 0), (2, 14, 0), (0, (-2147483648), 2147483647), (0, 0, 5)]) rfl rfl rfl (by decide) ⟨b_ref (b_in hZ (List.mem_append_left _ (.tail _ (.tail _ (.tail _ (.tail _ (.tail _ (.tail _ (.tail _ (.tail _ (.tail _ (.tail _ (.tail _ (.head _)))))))))))))), b_ref (b_in hZ (List.mem_append_left _ (.tail _ (.tail _ (.tail _ (.tail _ (.tail _ (.tail _ (.tail _ (.tail _ (.tail _ (.tail _ (.tail _ (.tail _ (.head _))))))))))))))), b_ref (b_in hZ (List.mem_append_left _ (.tail _ (.tail _ (.tail _ (.tail _ (.tail _ (.tail _ (.tail _ (.tail _ (.tail _ (.tail _ (.tail _ (.tail _ (.tail _ (.head _)))))))))))))))), b_ref (b_in hZ (List.mem_append_left _ (.tail _ (.tail _ (.tail _ (.tail _ (.tail _ (.tail _ (.tail _ (.tail _ (.tail _ (.tail _ (.tail _ (.tail _ (.tail _ (.tail _ (.head _))))))))))))))))), b_int (by decide), b_int (by decide), trivial⟩) (b_cons (b_arrI rfl (.inl rfl) (by decide) (fun _ _ => by decide)) (b_cons (b_arrI rfl (.inl rfl) (by decide) (fun _ _ => by decide)) (b_cons (b_arrI rfl (.inr (.inr rfl)) (by decide) (fun _ _ => by decide)) (b_cons (b_arrI rfl (.inl rfl) (by decide) (fun _ _ => by decide)) (b_cons (b_obj (tys := [(2, 16, 0), (2, 17, 0), (2, 18, 0), (0, 0, 5), (0, (-2147483648), 2147483647)]) rfl rfl rfl (by decide) ⟨b_ref (b_in hZ (List.mem_append_left _ (.tail _ (.tail _ (.tail _ (.tail _ (.tail _ (.tail _ (.tail _ (.tail _ (.tail _ (.tail _ (.tail _ (.tail _ (.tail _ (.tail _ (.tail _ (.tail _ (.head _))))))))))))))))))), b_ref (b_in hZ (List.mem_append_left _ (.tail _ (.tail _ (.tail _ (.tail _ (.tail _ (.tail _ (.tail _ (.tail _ (.tail _ (.tail _ (.tail _ (.tail _ (.tail _ (.tail _ (.tail _ (.tail _ (.tail _ (.head _)))))))))))))))))))), b_ref (b_in hZ (List.mem_append_left _ (.tail _ (.tail _ (.tail _ (.tail _ (.tail _ (.tail _ (.tail _ (.tail _ (.tail _ (.tail _ (.tail _ (.tail _ (.tail _ (.tail _ (.tail _ (.tail _ (.tail _ (.tail _ (.head _))))))))))))))))))))), b_int (by decide), b_int (by decide), trivial⟩) (b_cons (b_arrI rfl (.inl rfl) (by decide) (fun _ _ => by decide)) (b_cons (b_arrI rfl (.inl rfl) (by decide) (fun _ _ => by decide)) (b_cons (b_arrI rfl (.inl rfl) (by decide) (fun _ _ => by decide)) (b_cons (b_obj (tys := [(2, 1, 0), (2, 20, 0), (2, 21, 0), (0, 0, 40), (0, 0, 16005)]) rfl rfl rfl (by decide) ⟨b_ref (b_in hZ (List.mem_append_left _ (.tail _ (.head _)))), b_ref (b_in hZ (List.mem_append_left _ (.tail _ (.tail _ (.tail _ (.tail _ (.tail _ (.tail _ (.tail _ (.tail _ (.tail _ (.tail _ (.tail _ (.tail _ (.tail _ (.tail _ (.tail _ (.tail _ (.tail _ (.tail _ (.tail _ (.tail _ (.head _))))))))))))))))))))))), b_ref (htold.elim (fun c h => b_in hZ (z := (_, _, c)) (List.mem_append_right _ h))), b_int (by decide), b_int (by decide), trivial⟩) (b_cons (b_arrI rfl (.inl rfl) (by decide) (fun _ _ => by decide)) b_nil)))))))))))))))))))))
  have hH := b_H (γ := γ) hZ (fun z hz => (List.mem_append.mp hz).elim (hB z) (fun h => hcl _ (fun z hz => b_in hZ (List.mem_append_right _ hz)) z h))
  rw [List.map_append] at hH
  exact k_vret hC hr hlocks hw (List.range _) (q_nd _) (q_all _) ⟨⟨rfl, hH, rfl⟩, rfl⟩ (by decide) (by decide) dX11_init_156

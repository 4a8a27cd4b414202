
def F_lvl1 (f : Nat → Int32) (n : Nat) (G : rRS → aAS → rRS × aAS) : Nat → rRS → aAS → rRS × aAS
  | 0, rs, a => (rs, a)
  | k + 1, rs, a => if (rs.1) = 0 then (if (F_levelOf (F_operationHere f n rs)) = 1 then (((G (av f n rs) a).1), (F_addCode ((G (av f n rs) a).2) (F_operationHere f n rs))) else (rs, a)) else (rs, a)
theorem F_lvl1_z {f : Nat → Int32} {n : Nat} {G : rRS → aAS → rRS × aAS} {rs : rRS} {a : aAS} : (F_lvl1 f n G 0 rs a) = (rs, a) := rfl
theorem F_lvl1_s {f : Nat → Int32} {n : Nat} {G : rRS → aAS → rRS × aAS} {rs : rRS} {a : aAS} {k : Nat} : (F_lvl1 f n G (k + 1) rs a) = (if (rs.1) = 0 then (if (F_levelOf (F_operationHere f n rs)) = 1 then (((G (av f n rs) a).1), (F_addCode ((G (av f n rs) a).2) (F_operationHere f n rs))) else (rs, a)) else (rs, a)) := rfl
set_option maxHeartbeats 4000000 in
set_option maxRecDepth 100000 in
theorem lp_lvl1 {γ : kΓ} {l : Launch} {p : Program} {e : Env} {s : State} {m : MethodId} {below : List Frame} {meth : Method} {c : Code} {A : Nat → Prop} (rr : Nat) (rl : Nat) (ab : Nat) (mn : Int32) (h : Nat) (hg : Nat) (n : Nat) (f : Nat → Int32) (a0 : Nat) (a1 : Nat) (a2 : Nat) (a3 : Nat) (a4 : Nat) (a5 : Nat) (a6 : Nat) (a7 : Nat) (G : rRS → aAS → rRS × aAS) (fr : Nat) (lo : Nat) (dp : Int32) (hn : n ≤ 1000) (hok : ∀ k, k < n → kok (f k) = true) (hfr : 2 ≤ fr) (hlo : 60 ≤ lo) (hG : ∀ (rs : rRS) (a : aAS), aOK a → kM γ l yX5_readLevel cX5_readLevel 5 none ({ frames := fr, cells := 0, slots := 0, locals := lo } : Room) [.ref rr, .int 2, .int dp] ([(rr, .inr (5, [.ref h, .ref rl, .ref ab, .int mn, .int (rs.1)]))] ++ (tWd γ h hg n f (rs.2.1) (rs.2.2.1) (rs.2.2.2)) ++ (aWd γ ab a0 a1 a2 a3 a4 a5 a6 a7 a)) (fun r w1 => r = none ∧ w1 = ([(rr, .inr (5, [.ref h, .ref rl, .ref ab, .int mn, .int (((G rs a).1).1)]))] ++ (tWd γ h hg n f (((G rs a).1).2.1) (((G rs a).1).2.2.1) (((G rs a).1).2.2.2)) ++ (aWd γ ab a0 a1 a2 a3 a4 a5 a6 a7 ((G rs a).2))))) (hGo : ∀ (rs : rRS) (a : aAS), aOK a → aOK (G rs a).2) (hC : kC γ p s m [.ref rr, .int 1, .int dp].toArray c cX5_readLevel 5 RX5 A) (hr : meth.sig.returnType = none) (hlocks : meth.locks = false) : ∀ (k i : Nat) (rs : rRS) (a : aAS), i + k = 1000 → (aOK a) → ∀ (H : Heap) (locs : List Loc), kW γ A ([(rr, .inr (5, [.ref h, .ref rl, .ref ab, .int mn, .int (rs.1)]))] ++ (tWd γ h hg n f (rs.2.1) (rs.2.2.1) (rs.2.2.2)) ++ (aWd γ ab a0 a1 a2 a3 a4 a5 a6 a7 a)) s H locs → ∀ ls : Array Slot, lv_has ls 5 [(3, .int (nI i)), (0, .ref rr), (1, .int 1), (2, .int dp)] → W p l e ({ frames := (fr + 1), cells := 0, slots := 0, locals := (lo + 24) } : Room) s m [.ref rr, .int 1, .int dp].toArray below meth c H locs 0 0 (MQ below (kQ γ A (fun r w1 => r = none ∧ w1 = ([(rr, .inr (5, [.ref h, .ref rl, .ref ab, .int mn, .int (((F_lvl1 f n G k rs a).1).1)]))] ++ (tWd γ h hg n f (((F_lvl1 f n G k rs a).1).2.1) (((F_lvl1 f n G k rs a).1).2.2.1) (((F_lvl1 f n G k rs a).1).2.2.2)) ++ (aWd γ ab a0 a1 a2 a3 a4 a5 a6 a7 ((F_lvl1 f n G k rs a).2))))) [.ref rr, .int 1, .int dp].toArray s 0 0 A) (F0 m 29 ls []) := by
  have hx := hC.1
  have hb := hC.2.1
  intro k
  induction k with
  | zero =>
    intro i rs a hk hA H locs hw ls hl
    refine lv_iload_n hx hb dX5_readLevel_29 rfl (lv_at hl 0 rfl) ?_
    refine lv_sipush (v := 1000) hx hb dX5_readLevel_30 (by decide) ?_
    refine lv_icmp_ge (tgt := 95) hx hb dX5_readLevel_33 (by decide) (fun _ => ?_) (fun h => absurd (nI_le (a := 1000) (by omega) (by omega)) h)
    have hE : (F_lvl1 f n G 0 rs a) = (rs, a) := by rfl
    have hw : kW γ A ([(rr, .inr (5, [.ref h, .ref rl, .ref ab, .int mn, .int (((F_lvl1 f n G 0 rs a).1).1)]))] ++ (tWd γ h hg n f (((F_lvl1 f n G 0 rs a).1).2.1) (((F_lvl1 f n G 0 rs a).1).2.2.1) (((F_lvl1 f n G 0 rs a).1).2.2.2)) ++ (aWd γ ab a0 a1 a2 a3 a4 a5 a6 a7 ((F_lvl1 f n G 0 rs a).2))) s H locs := by first | (rw [hE]; exact hw) | exact hw
    exact k_vret hC hr hlocks hw [0, 1, 2, 3, 4, 5, 6, 7, 8, 9, 10] rfl rfl ⟨rfl, rfl⟩ (Nat.le_refl _) (Nat.le_refl _) dX5_readLevel_95
  | succ k ih =>
    intro i rs a hk hA H locs hw ls hl
    refine lv_iload_n hx hb dX5_readLevel_29 rfl (lv_at hl 0 rfl) ?_
    refine lv_sipush (v := 1000) hx hb dX5_readLevel_30 (by decide) ?_
    refine lv_icmp_ge (tgt := 95) hx hb dX5_readLevel_33 (by decide) (fun h => absurd h (nI_ge (b := 1000) (by omega) (by decide))) (fun _ => ?_)
    refine lv_aload_n hx hb dX5_readLevel_36 rfl (lv_at hl 1 rfl) ?_
    refine fg_RX5_91 hC hw 0 rfl rfl dX5_readLevel_37 ?_
    refine lv_if_ne (tgt := 95) hx hb dX5_readLevel_40 (by decide) (fun c_216 => ?_) (fun c_216 => ?_)
    · have hE : (F_lvl1 f n G (k + 1) rs a) = (rs, a) := by rw [F_lvl1_s, if_neg c_216]
      have hw : kW γ A ([(rr, .inr (5, [.ref h, .ref rl, .ref ab, .int mn, .int (((F_lvl1 f n G (k + 1) rs a).1).1)]))] ++ (tWd γ h hg n f (((F_lvl1 f n G (k + 1) rs a).1).2.1) (((F_lvl1 f n G (k + 1) rs a).1).2.2.1) (((F_lvl1 f n G (k + 1) rs a).1).2.2.2)) ++ (aWd γ ab a0 a1 a2 a3 a4 a5 a6 a7 ((F_lvl1 f n G (k + 1) rs a).2))) s H locs := by first | (rw [hE]; exact hw) | exact hw
      exact k_vret hC hr hlocks hw [0, 1, 2, 3, 4, 5, 6, 7, 8, 9, 10] rfl rfl ⟨rfl, rfl⟩ (Nat.le_refl _) (Nat.le_refl _) dX5_readLevel_95
    · refine lv_aload_n hx hb dX5_readLevel_43 rfl (lv_at hl 1 rfl) ?_
      refine k_V (wr := (aWd γ ab a0 a1 a2 a3 a4 a5 a6 a7 a)) 0 gw_632 gw_634 gp_20 gw_14 gw_635 hd_X5_operationHere hC hw (c_operationHere γ l rr rl ab mn h hg n rs f hn hok) ⟨show 0 + 1 ≤ (fr + 1) by omega, show 8 + (1 + 11) + 0 ≤ (lo + 24) by omega⟩ ⟨Nat.le_refl _, Nat.le_refl _⟩ hl.1 rfl 0 rfl rfl rfl (Nat.le_of_ble_eq_true rfl) [0, 1, 2] [3, 4, 5, 6, 7, 8, 9, 10] rfl rfl rfl rfl (by decide) dX5_readLevel_44 (fun r w1 H locs hq hw => ?_)
      obtain ⟨rfl, rfl⟩ := hq
      have hw : kW γ A ((aWd γ ab a0 a1 a2 a3 a4 a5 a6 a7 a) ++ [(rr, .inr (5, [.ref h, .ref rl, .ref ab, .int mn, .int (rs.1)]))] ++ (tWd γ h hg n f (rs.2.1) (rs.2.2.1) (rs.2.2.2))) s H locs := hw
      refine W.eq (g2 := F0 m 47 ls [.int (F_operationHere f n rs)]) rfl ?_
      refine lv_istore (lv' := [(4, .int (F_operationHere f n rs)), (3, .int (nI i)), (0, .ref rr), (1, .int 1), (2, .int dp)]) hx hb dX5_readLevel_47 hl (by decide) rfl (fun ls hl => ?_)
      refine lv_iload hx hb dX5_readLevel_49 (lv_at hl 0 rfl) ?_
      refine k_S (wr := ((aWd γ ab a0 a1 a2 a3 a4 a5 a6 a7 a) ++ [(rr, .inr (5, [.ref h, .ref rl, .ref ab, .int mn, .int (rs.1)]))] ++ (tWd γ h hg n f (rs.2.1) (rs.2.2.1) (rs.2.2.2)))) 1 gw_640 gw_641 gw_14 gw_642 hd_X5_levelOf hC hw (c_levelOf γ l (F_operationHere f n rs)) ⟨show 0 + 1 ≤ (fr + 1) by omega, show 8 + (1 + 11) + 0 ≤ (lo + 24) by omega⟩ ⟨Nat.le_refl _, Nat.le_refl _⟩ hl.1 rfl rfl (Nat.le_of_ble_eq_true rfl) [] [0, 1, 2, 3, 4, 5, 6, 7, 8, 9, 10] rfl rfl rfl rfl (by decide) dX5_readLevel_51 (fun r w1 H locs hq hw => ?_)
      obtain ⟨rfl, rfl⟩ := hq
      have hw : kW γ A ((aWd γ ab a0 a1 a2 a3 a4 a5 a6 a7 a) ++ [(rr, .inr (5, [.ref h, .ref rl, .ref ab, .int mn, .int (rs.1)]))] ++ (tWd γ h hg n f (rs.2.1) (rs.2.2.1) (rs.2.2.2))) s H locs := hw
      refine W.eq (g2 := F0 m 54 ls [.int (F_levelOf (F_operationHere f n rs))]) rfl ?_
      refine lv_iload_n hx hb dX5_readLevel_54 rfl (lv_at hl 3 rfl) ?_
      refine lv_icmp_eq (tgt := 59) hx hb dX5_readLevel_55 (by decide) (fun c_217 => ?_) (fun c_217 => ?_)
      · refine lv_aload_n hx hb dX5_readLevel_59 rfl (lv_at hl 2 rfl) ?_
        refine fg_RX5_15 hC hw 8 rfl rfl dX5_readLevel_60 ?_
        refine k_V (wr := ((aWd γ ab a0 a1 a2 a3 a4 a5 a6 a7 a) ++ [(rr, .inr (5, [.ref h, .ref rl, .ref ab, .int mn, .int (rs.1)]))])) 0 gw_497 gw_461 gw_462 gw_2 gw_463 hd_X8_advance hC hw (c_av γ l h hg n rs f hn hok) ⟨show 1 + 1 ≤ (fr + 1) by omega, show 8 + (2 + 11) + 40 ≤ (lo + 24) by omega⟩ ⟨Nat.le_refl _, Nat.le_refl _⟩ hl.1 rfl 9 rfl rfl rfl (Nat.le_of_ble_eq_true rfl) [9, 10] [0, 1, 2, 3, 4, 5, 6, 7, 8] rfl rfl rfl rfl (by decide) dX5_readLevel_63 (fun r w1 H locs hq hw => ?_)
        obtain ⟨rfl, rfl⟩ := hq
        have hw : kW γ A ((aWd γ ab a0 a1 a2 a3 a4 a5 a6 a7 a) ++ [(rr, .inr (5, [.ref h, .ref rl, .ref ab, .int mn, .int (rs.1)]))] ++ (tWd γ h hg n f ((av f n rs).2.1) ((av f n rs).2.2.1) ((av f n rs).2.2.2))) s H locs := hw
        refine W.eq (g2 := F0 m 66 ls []) rfl ?_
        refine lv_aload_n hx hb dX5_readLevel_66 rfl (lv_at hl 2 rfl) ?_
        refine lv_iload_n hx hb dX5_readLevel_67 rfl (lv_at hl 3 rfl) ?_
        refine lv_iconst (v := 1) hx hb dX5_readLevel_68 (by decide) ?_
        refine lv_iadd hx hb dX5_readLevel_69 ?_
        refine lv_topi (fun x_218 ex_218 => ?_)
        obtain rfl : x_218 = 2 := ex_218.trans (by decide)
        refine lv_iload_n hx hb dX5_readLevel_70 rfl (lv_at hl 4 rfl) ?_
        refine k_V (wr := []) 2 gw_606 gw_608 gp_18 gw_14 gw_609 hd_X5_readLevel hC hw (hG (av f n rs) a hA) ⟨show fr + 1 ≤ (fr + 1) by omega, show 8 + (5 + 11) + lo ≤ (lo + 24) by omega⟩ ⟨Nat.le_refl _, Nat.le_refl _⟩ hl.1 rfl 8 rfl rfl rfl (Nat.le_of_ble_eq_true rfl) [8, 9, 10, 0, 1, 2, 3, 4, 5, 6, 7] [] rfl rfl rfl rfl (by decide) dX5_readLevel_71 (fun r w1 H locs hq hw => ?_)
        obtain ⟨rfl, rfl⟩ := hq
        have hw : kW γ A ([(rr, .inr (5, [.ref h, .ref rl, .ref ab, .int mn, .int (((G (av f n rs) a).1).1)]))] ++ (tWd γ h hg n f (((G (av f n rs) a).1).2.1) (((G (av f n rs) a).1).2.2.1) (((G (av f n rs) a).1).2.2.2)) ++ (aWd γ ab a0 a1 a2 a3 a4 a5 a6 a7 ((G (av f n rs) a).2))) s H locs := hw
        refine W.eq (g2 := F0 m 74 ls []) rfl ?_
        refine lv_aload_n hx hb dX5_readLevel_74 rfl (lv_at hl 2 rfl) ?_
        refine fg_RX5_19 hC hw 0 rfl rfl dX5_readLevel_75 ?_
        refine lv_iload hx hb dX5_readLevel_78 (lv_at hl 0 rfl) ?_
        refine k_V (wr := ([(rr, .inr (5, [.ref h, .ref rl, .ref ab, .int mn, .int (((G (av f n rs) a).1).1)]))] ++ (tWd γ h hg n f (((G (av f n rs) a).1).2.1) (((G (av f n rs) a).1).2.2.1) (((G (av f n rs) a).1).2.2.2)))) 1 gw_628 gw_629 gw_630 gw_13 gw_631 hd_X0_addCode hC hw (c_addCode γ l ab a0 a1 a2 a3 a4 a5 a6 a7 ((G (av f n rs) a).2) (F_operationHere f n rs) (hGo _ _ hA)) ⟨show 0 + 1 ≤ (fr + 1) by omega, show 8 + (2 + 11) + 0 ≤ (lo + 24) by omega⟩ ⟨Nat.le_refl _, Nat.le_refl _⟩ hl.1 rfl 3 rfl rfl rfl (Nat.le_of_ble_eq_true rfl) [3, 4, 5, 6, 7, 8, 9, 10] [0, 1, 2] rfl rfl rfl rfl (by decide) dX5_readLevel_80 (fun r w1 H locs hq hw => ?_)
        obtain ⟨rfl, rfl⟩ := hq
        have hw : kW γ A ([(rr, .inr (5, [.ref h, .ref rl, .ref ab, .int mn, .int (((G (av f n rs) a).1).1)]))] ++ (tWd γ h hg n f (((G (av f n rs) a).1).2.1) (((G (av f n rs) a).1).2.2.1) (((G (av f n rs) a).1).2.2.2)) ++ (aWd γ ab a0 a1 a2 a3 a4 a5 a6 a7 (F_addCode ((G (av f n rs) a).2) (F_operationHere f n rs)))) s H locs := hw
        refine W.eq (g2 := F0 m 83 ls []) rfl ?_
        refine lv_iload_n hx hb dX5_readLevel_83 rfl (lv_at hl 3 rfl) ?_
        refine lv_iconst (v := 1) hx hb dX5_readLevel_84 (by decide) ?_
        refine lv_icmp_ne (tgt := 89) hx hb dX5_readLevel_85 (by decide) (fun h => absurd rfl h) (fun _ => ?_)
        have hE : (F_lvl1 f n G (k + 1) rs a) = (((G (av f n rs) a).1), (F_addCode ((G (av f n rs) a).2) (F_operationHere f n rs))) := by rw [F_lvl1_s, if_pos c_216, if_pos c_217]
        have hw : kW γ A ([(rr, .inr (5, [.ref h, .ref rl, .ref ab, .int mn, .int (((F_lvl1 f n G (k + 1) rs a).1).1)]))] ++ (tWd γ h hg n f (((F_lvl1 f n G (k + 1) rs a).1).2.1) (((F_lvl1 f n G (k + 1) rs a).1).2.2.1) (((F_lvl1 f n G (k + 1) rs a).1).2.2.2)) ++ (aWd γ ab a0 a1 a2 a3 a4 a5 a6 a7 ((F_lvl1 f n G (k + 1) rs a).2))) s H locs := by first | (rw [hE]; exact hw) | exact hw
        exact k_vret hC hr hlocks hw [0, 1, 2, 3, 4, 5, 6, 7, 8, 9, 10] rfl rfl ⟨rfl, rfl⟩ (Nat.le_refl _) (Nat.le_refl _) dX5_readLevel_88
      · have hE : (F_lvl1 f n G (k + 1) rs a) = (rs, a) := by rw [F_lvl1_s, if_pos c_216, if_neg c_217]
        have hw : kW γ A ((aWd γ ab a0 a1 a2 a3 a4 a5 a6 a7 ((F_lvl1 f n G (k + 1) rs a).2)) ++ [(rr, .inr (5, [.ref h, .ref rl, .ref ab, .int mn, .int (((F_lvl1 f n G (k + 1) rs a).1).1)]))] ++ (tWd γ h hg n f (((F_lvl1 f n G (k + 1) rs a).1).2.1) (((F_lvl1 f n G (k + 1) rs a).1).2.2.1) (((F_lvl1 f n G (k + 1) rs a).1).2.2.2))) s H locs := by first | (rw [hE]; exact hw) | exact hw
        exact k_vret hC hr hlocks hw [8, 9, 10, 0, 1, 2, 3, 4, 5, 6, 7] rfl rfl ⟨rfl, rfl⟩ (Nat.le_refl _) (Nat.le_refl _) dX5_readLevel_58

def F_lev1 (f : Nat → Int32) (n : Nat) (G : rRS → aAS → rRS × aAS) (rs : rRS) (a : aAS) : rRS × aAS :=
  if (rs.1) = 0 then (F_lvl1 f n G 1000 ((G rs a).1) ((G rs a).2)) else (rs, a)
set_option maxHeartbeats 4000000 in
set_option maxRecDepth 100000 in
theorem c_lev1 (γ : kΓ) (l : Launch) (rr : Nat) (rl : Nat) (ab : Nat) (mn : Int32) (h : Nat) (hg : Nat) (n : Nat) (rs : rRS) (f : Nat → Int32) (a0 : Nat) (a1 : Nat) (a2 : Nat) (a3 : Nat) (a4 : Nat) (a5 : Nat) (a6 : Nat) (a7 : Nat) (a : aAS) (G : rRS → aAS → rRS × aAS) (fr : Nat) (lo : Nat) (dp : Int32) (hn : n ≤ 1000) (hok : ∀ k, k < n → kok (f k) = true) (hA : aOK a) (hfr : 2 ≤ fr) (hlo : 60 ≤ lo) (hG : ∀ (rs : rRS) (a : aAS), aOK a → kM γ l yX5_readLevel cX5_readLevel 5 none ({ frames := fr, cells := 0, slots := 0, locals := lo } : Room) [.ref rr, .int 2, .int dp] ([(rr, .inr (5, [.ref h, .ref rl, .ref ab, .int mn, .int (rs.1)]))] ++ (tWd γ h hg n f (rs.2.1) (rs.2.2.1) (rs.2.2.2)) ++ (aWd γ ab a0 a1 a2 a3 a4 a5 a6 a7 a)) (fun r w1 => r = none ∧ w1 = ([(rr, .inr (5, [.ref h, .ref rl, .ref ab, .int mn, .int (((G rs a).1).1)]))] ++ (tWd γ h hg n f (((G rs a).1).2.1) (((G rs a).1).2.2.1) (((G rs a).1).2.2.2)) ++ (aWd γ ab a0 a1 a2 a3 a4 a5 a6 a7 ((G rs a).2))))) (hGo : ∀ (rs : rRS) (a : aAS), aOK a → aOK (G rs a).2) : kM γ l yX5_readLevel cX5_readLevel 5 none ({ frames := (fr + 1), cells := 0, slots := 0, locals := (lo + 24) } : Room) [.ref rr, .int 1, .int dp] ([(rr, .inr (5, [.ref h, .ref rl, .ref ab, .int mn, .int (rs.1)]))] ++ (tWd γ h hg n f (rs.2.1) (rs.2.2.1) (rs.2.2.2)) ++ (aWd γ ab a0 a1 a2 a3 a4 a5 a6 a7 a)) (fun r w1 => r = none ∧ w1 = ([(rr, .inr (5, [.ref h, .ref rl, .ref ab, .int mn, .int (((F_lev1 f n G rs a).1).1)]))] ++ (tWd γ h hg n f (((F_lev1 f n G rs a).1).2.1) (((F_lev1 f n G rs a).1).2.2.1) (((F_lev1 f n G rs a).1).2.2.2)) ++ (aWd γ ab a0 a1 a2 a3 a4 a5 a6 a7 ((F_lev1 f n G rs a).2)))) := by
  refine k_ofW (by decide) (Nat.le_of_ble_eq_true rfl) ?_
  intro p9 e s m below meth c A ls hC hr hlocks hname hw hl
  have hx := hC.1
  have hb := hC.2.1
  have hl : lv_has ls 5 [(0, .ref rr), (1, .int 1), (2, .int dp)] := hl
  have hT : (a.2.2.2.2.2.2.2.1) ≤ 8 := hA.1
  have hQ : (a.2.2.2.2.2.2.2.2.1) ≤ 5 := hA.2.1
  have hE9 : (a.2.2.2.2.2.2.2.2.2.2.2.2.2.1) ≤ 1000 := hA.2.2
  refine lv_aload_n hx hb dX5_readLevel_0 rfl (lv_at hl 0 rfl) ?_
  refine fg_RX5_91 hC hw 0 rfl rfl dX5_readLevel_1 ?_
  refine lv_if_eq (tgt := 8) hx hb dX5_readLevel_4 (by decide) (fun c_221 => ?_) (fun c_221 => ?_)
  · refine lv_iload_n hx hb dX5_readLevel_8 rfl (lv_at hl 1 rfl) ?_
    refine lv_iconst (v := 4) hx hb dX5_readLevel_9 (by decide) ?_
    refine lv_icmp_lt (tgt := 19) hx hb dX5_readLevel_10 (by decide) (fun _ => ?_) (fun h => absurd (by decide) h)
    refine lv_aload_n hx hb dX5_readLevel_19 rfl (lv_at hl 0 rfl) ?_
    refine lv_iload_n hx hb dX5_readLevel_20 rfl (lv_at hl 1 rfl) ?_
    refine lv_iconst (v := 1) hx hb dX5_readLevel_21 (by decide) ?_
    refine lv_iadd hx hb dX5_readLevel_22 ?_
    refine lv_topi (fun x_222 ex_222 => ?_)
    obtain rfl : x_222 = 2 := ex_222.trans (by decide)
    refine lv_iload_n hx hb dX5_readLevel_23 rfl (lv_at hl 2 rfl) ?_
    refine k_V (wr := []) 2 gw_606 gw_608 gp_18 gw_14 gw_609 hd_X5_readLevel hC hw (hG rs a hA) ⟨show fr + 1 ≤ (fr + 1) by omega, show 8 + (5 + 11) + lo ≤ (lo + 24) by omega⟩ ⟨Nat.le_refl _, Nat.le_refl _⟩ hl.1 rfl 0 rfl rfl rfl (Nat.le_of_ble_eq_true rfl) [0, 1, 2, 3, 4, 5, 6, 7, 8, 9, 10] [] rfl rfl rfl rfl (by decide) dX5_readLevel_24 (fun r w1 H locs hq hw => ?_)
    obtain ⟨rfl, rfl⟩ := hq
    have hw : kW γ A ([(rr, .inr (5, [.ref h, .ref rl, .ref ab, .int mn, .int (((G rs a).1).1)]))] ++ (tWd γ h hg n f (((G rs a).1).2.1) (((G rs a).1).2.2.1) (((G rs a).1).2.2.2)) ++ (aWd γ ab a0 a1 a2 a3 a4 a5 a6 a7 ((G rs a).2))) s H locs := hw
    refine W.eq (g2 := F0 m 27 ls []) rfl ?_
    refine lv_iconst (v := 0) hx hb dX5_readLevel_27 (by decide) ?_
    refine lv_istore_n (lv' := [(3, .int 0), (0, .ref rr), (1, .int 1), (2, .int dp)]) hx hb dX5_readLevel_28 rfl hl (by decide) rfl (fun ls hl => ?_)
    have hE : (F_lev1 f n G rs a) = (F_lvl1 f n G 1000 ((G rs a).1) ((G rs a).2)) := by unfold F_lev1; rw [if_pos c_221]
    rw [hE]
    exact lp_lvl1 rr rl ab mn h hg n f a0 a1 a2 a3 a4 a5 a6 a7 G fr lo dp hn hok hfr hlo hG hGo hC hr hlocks 1000 0 ((G rs a).1) ((G rs a).2) rfl (hGo _ _ hA) _ _ (kW.sub hw [0, 1, 2, 3, 4, 5, 6, 7, 8, 9, 10] rfl rfl) _ (lv_sub hl [0, 1, 2, 3] rfl)
  · have hE : (F_lev1 f n G rs a) = (rs, a) := by unfold F_lev1; rw [if_neg c_221]
    have hw : kW γ A ([(rr, .inr (5, [.ref h, .ref rl, .ref ab, .int mn, .int (((F_lev1 f n G rs a).1).1)]))] ++ (tWd γ h hg n f (((F_lev1 f n G rs a).1).2.1) (((F_lev1 f n G rs a).1).2.2.1) (((F_lev1 f n G rs a).1).2.2.2)) ++ (aWd γ ab a0 a1 a2 a3 a4 a5 a6 a7 ((F_lev1 f n G rs a).2))) s s.heap [] := by first | (rw [hE]; exact hw) | exact hw
    exact k_vret hC hr hlocks hw [0, 1, 2, 3, 4, 5, 6, 7, 8, 9, 10] rfl rfl ⟨rfl, rfl⟩ (Nat.le_refl _) (Nat.le_refl _) dX5_readLevel_7

theorem ok_lvl1 {f : Nat → Int32} {n : Nat} {G : rRS → aAS → rRS × aAS} (hGo : ∀ (rs : rRS) (a : aAS), aOK a → aOK (G rs a).2) : ∀ (k : Nat) (rs : rRS) (a : aAS), aOK a → aOK (F_lvl1 f n G k rs a).2
  | 0, rs, a, hA => hA
  | k + 1, rs, a, hA => by
    rw [F_lvl1_s]
    repeat' split
    all_goals first | exact hA | exact ok_lvl1 hGo k _ _ (ok_addCode (hGo _ _ hA)) | exact ok_addCode (hGo _ _ hA)

theorem ok_lev1 {f : Nat → Int32} {n : Nat} {G : rRS → aAS → rRS × aAS} {rs : rRS} {a : aAS} (hGo : ∀ (rs : rRS) (a : aAS), aOK a → aOK (G rs a).2) (hA : aOK a) : aOK (F_lev1 f n G rs a).2 := by
  unfold F_lev1
  split
  · exact ok_lvl1 hGo _ _ _ (hGo _ _ hA)
  · exact hA

def F_lvl0 (f : Nat → Int32) (n : Nat) (G : rRS → aAS → rRS × aAS) : Nat → rRS → aAS → rRS × aAS
  | 0, rs, a => (rs, a)
  | k + 1, rs, a => if (rs.1) = 0 then (if (F_levelOf (F_operationHere f n rs)) = 0 then (F_lvl0 f n G k ((G (av f n rs) a).1) (F_addCode ((G (av f n rs) a).2) (F_operationHere f n rs))) else (rs, a)) else (rs, a)
theorem F_lvl0_z {f : Nat → Int32} {n : Nat} {G : rRS → aAS → rRS × aAS} {rs : rRS} {a : aAS} : (F_lvl0 f n G 0 rs a) = (rs, a) := rfl
theorem F_lvl0_s {f : Nat → Int32} {n : Nat} {G : rRS → aAS → rRS × aAS} {rs : rRS} {a : aAS} {k : Nat} : (F_lvl0 f n G (k + 1) rs a) = (if (rs.1) = 0 then (if (F_levelOf (F_operationHere f n rs)) = 0 then (F_lvl0 f n G k ((G (av f n rs) a).1) (F_addCode ((G (av f n rs) a).2) (F_operationHere f n rs))) else (rs, a)) else (rs, a)) := rfl
set_option maxHeartbeats 4000000 in
set_option maxRecDepth 100000 in
theorem lp_lvl0 {γ : kΓ} {l : Launch} {p : Program} {e : Env} {s : State} {m : MethodId} {below : List Frame} {meth : Method} {c : Code} {A : Nat → Prop} (rr : Nat) (rl : Nat) (ab : Nat) (mn : Int32) (h : Nat) (hg : Nat) (n : Nat) (f : Nat → Int32) (a0 : Nat) (a1 : Nat) (a2 : Nat) (a3 : Nat) (a4 : Nat) (a5 : Nat) (a6 : Nat) (a7 : Nat) (G : rRS → aAS → rRS × aAS) (fr : Nat) (lo : Nat) (dp : Int32) (hn : n ≤ 1000) (hok : ∀ k, k < n → kok (f k) = true) (hfr : 2 ≤ fr) (hlo : 60 ≤ lo) (hG : ∀ (rs : rRS) (a : aAS), aOK a → kM γ l yX5_readLevel cX5_readLevel 5 none ({ frames := fr, cells := 0, slots := 0, locals := lo } : Room) [.ref rr, .int 1, .int dp] ([(rr, .inr (5, [.ref h, .ref rl, .ref ab, .int mn, .int (rs.1)]))] ++ (tWd γ h hg n f (rs.2.1) (rs.2.2.1) (rs.2.2.2)) ++ (aWd γ ab a0 a1 a2 a3 a4 a5 a6 a7 a)) (fun r w1 => r = none ∧ w1 = ([(rr, .inr (5, [.ref h, .ref rl, .ref ab, .int mn, .int (((G rs a).1).1)]))] ++ (tWd γ h hg n f (((G rs a).1).2.1) (((G rs a).1).2.2.1) (((G rs a).1).2.2.2)) ++ (aWd γ ab a0 a1 a2 a3 a4 a5 a6 a7 ((G rs a).2))))) (hGo : ∀ (rs : rRS) (a : aAS), aOK a → aOK (G rs a).2) (hC : kC γ p s m [.ref rr, .int 0, .int dp].toArray c cX5_readLevel 5 RX5 A) (hr : meth.sig.returnType = none) (hlocks : meth.locks = false) : ∀ (k i : Nat) (rs : rRS) (a : aAS), i + k = 1000 → (aOK a) → ∀ (H : Heap) (locs : List Loc), kW γ A ([(rr, .inr (5, [.ref h, .ref rl, .ref ab, .int mn, .int (rs.1)]))] ++ (tWd γ h hg n f (rs.2.1) (rs.2.2.1) (rs.2.2.2)) ++ (aWd γ ab a0 a1 a2 a3 a4 a5 a6 a7 a)) s H locs → ∀ ls : Array Slot, lv_has ls 5 [(3, .int (nI i)), (0, .ref rr), (1, .int 0), (2, .int dp)] → W p l e ({ frames := (fr + 1), cells := 0, slots := 0, locals := (lo + 24) } : Room) s m [.ref rr, .int 0, .int dp].toArray below meth c H locs 0 0 (MQ below (kQ γ A (fun r w1 => r = none ∧ w1 = ([(rr, .inr (5, [.ref h, .ref rl, .ref ab, .int mn, .int (((F_lvl0 f n G k rs a).1).1)]))] ++ (tWd γ h hg n f (((F_lvl0 f n G k rs a).1).2.1) (((F_lvl0 f n G k rs a).1).2.2.1) (((F_lvl0 f n G k rs a).1).2.2.2)) ++ (aWd γ ab a0 a1 a2 a3 a4 a5 a6 a7 ((F_lvl0 f n G k rs a).2))))) [.ref rr, .int 0, .int dp].toArray s 0 0 A) (F0 m 29 ls []) := by
  have hx := hC.1
  have hb := hC.2.1
  intro k
  induction k with
  | zero =>
    intro i rs a hk hA H locs hw ls hl
    refine lv_iload_n hx hb dX5_readLevel_29 rfl (lv_at hl 0 rfl) ?_
    refine lv_sipush (v := 1000) hx hb dX5_readLevel_30 (by decide) ?_
    refine lv_icmp_ge (tgt := 95) hx hb dX5_readLevel_33 (by decide) (fun _ => ?_) (fun h => absurd (nI_le (a := 1000) (by omega) (by omega)) h)
    have hE : (F_lvl0 f n G 0 rs a) = (rs, a) := by rfl
    have hw : kW γ A ([(rr, .inr (5, [.ref h, .ref rl, .ref ab, .int mn, .int (((F_lvl0 f n G 0 rs a).1).1)]))] ++ (tWd γ h hg n f (((F_lvl0 f n G 0 rs a).1).2.1) (((F_lvl0 f n G 0 rs a).1).2.2.1) (((F_lvl0 f n G 0 rs a).1).2.2.2)) ++ (aWd γ ab a0 a1 a2 a3 a4 a5 a6 a7 ((F_lvl0 f n G 0 rs a).2))) s H locs := by first | (rw [hE]; exact hw) | exact hw
    exact k_vret hC hr hlocks hw [0, 1, 2, 3, 4, 5, 6, 7, 8, 9, 10] rfl rfl ⟨rfl, rfl⟩ (Nat.le_refl _) (Nat.le_refl _) dX5_readLevel_95
  | succ k ih =>
    intro i rs a hk hA H locs hw ls hl
    refine lv_iload_n hx hb dX5_readLevel_29 rfl (lv_at hl 0 rfl) ?_
    refine lv_sipush (v := 1000) hx hb dX5_readLevel_30 (by decide) ?_
    refine lv_icmp_ge (tgt := 95) hx hb dX5_readLevel_33 (by decide) (fun h => absurd h (nI_ge (b := 1000) (by omega) (by decide))) (fun _ => ?_)
    refine lv_aload_n hx hb dX5_readLevel_36 rfl (lv_at hl 1 rfl) ?_
    refine fg_RX5_91 hC hw 0 rfl rfl dX5_readLevel_37 ?_
    refine lv_if_ne (tgt := 95) hx hb dX5_readLevel_40 (by decide) (fun c_226 => ?_) (fun c_226 => ?_)
    · have hE : (F_lvl0 f n G (k + 1) rs a) = (rs, a) := by rw [F_lvl0_s, if_neg c_226]
      have hw : kW γ A ([(rr, .inr (5, [.ref h, .ref rl, .ref ab, .int mn, .int (((F_lvl0 f n G (k + 1) rs a).1).1)]))] ++ (tWd γ h hg n f (((F_lvl0 f n G (k + 1) rs a).1).2.1) (((F_lvl0 f n G (k + 1) rs a).1).2.2.1) (((F_lvl0 f n G (k + 1) rs a).1).2.2.2)) ++ (aWd γ ab a0 a1 a2 a3 a4 a5 a6 a7 ((F_lvl0 f n G (k + 1) rs a).2))) s H locs := by first | (rw [hE]; exact hw) | exact hw
      exact k_vret hC hr hlocks hw [0, 1, 2, 3, 4, 5, 6, 7, 8, 9, 10] rfl rfl ⟨rfl, rfl⟩ (Nat.le_refl _) (Nat.le_refl _) dX5_readLevel_95
    · refine lv_aload_n hx hb dX5_readLevel_43 rfl (lv_at hl 1 rfl) ?_
      refine k_V (wr := (aWd γ ab a0 a1 a2 a3 a4 a5 a6 a7 a)) 0 gw_632 gw_634 gp_20 gw_14 gw_635 hd_X5_operationHere hC hw (c_operationHere γ l rr rl ab mn h hg n rs f hn hok) ⟨show 0 + 1 ≤ (fr + 1) by omega, show 8 + (1 + 11) + 0 ≤ (lo + 24) by omega⟩ ⟨Nat.le_refl _, Nat.le_refl _⟩ hl.1 rfl 0 rfl rfl rfl (Nat.le_of_ble_eq_true rfl) [0, 1, 2] [3, 4, 5, 6, 7, 8, 9, 10] rfl rfl rfl rfl (by decide) dX5_readLevel_44 (fun r w1 H locs hq hw => ?_)
      obtain ⟨rfl, rfl⟩ := hq
      have hw : kW γ A ((aWd γ ab a0 a1 a2 a3 a4 a5 a6 a7 a) ++ [(rr, .inr (5, [.ref h, .ref rl, .ref ab, .int mn, .int (rs.1)]))] ++ (tWd γ h hg n f (rs.2.1) (rs.2.2.1) (rs.2.2.2))) s H locs := hw
      refine W.eq (g2 := F0 m 47 ls [.int (F_operationHere f n rs)]) rfl ?_
      refine lv_istore (lv' := [(4, .int (F_operationHere f n rs)), (3, .int (nI i)), (0, .ref rr), (1, .int 0), (2, .int dp)]) hx hb dX5_readLevel_47 hl (by decide) rfl (fun ls hl => ?_)
      refine lv_iload hx hb dX5_readLevel_49 (lv_at hl 0 rfl) ?_
      refine k_S (wr := ((aWd γ ab a0 a1 a2 a3 a4 a5 a6 a7 a) ++ [(rr, .inr (5, [.ref h, .ref rl, .ref ab, .int mn, .int (rs.1)]))] ++ (tWd γ h hg n f (rs.2.1) (rs.2.2.1) (rs.2.2.2)))) 1 gw_640 gw_641 gw_14 gw_642 hd_X5_levelOf hC hw (c_levelOf γ l (F_operationHere f n rs)) ⟨show 0 + 1 ≤ (fr + 1) by omega, show 8 + (1 + 11) + 0 ≤ (lo + 24) by omega⟩ ⟨Nat.le_refl _, Nat.le_refl _⟩ hl.1 rfl rfl (Nat.le_of_ble_eq_true rfl) [] [0, 1, 2, 3, 4, 5, 6, 7, 8, 9, 10] rfl rfl rfl rfl (by decide) dX5_readLevel_51 (fun r w1 H locs hq hw => ?_)
      obtain ⟨rfl, rfl⟩ := hq
      have hw : kW γ A ((aWd γ ab a0 a1 a2 a3 a4 a5 a6 a7 a) ++ [(rr, .inr (5, [.ref h, .ref rl, .ref ab, .int mn, .int (rs.1)]))] ++ (tWd γ h hg n f (rs.2.1) (rs.2.2.1) (rs.2.2.2))) s H locs := hw
      refine W.eq (g2 := F0 m 54 ls [.int (F_levelOf (F_operationHere f n rs))]) rfl ?_
      refine lv_iload_n hx hb dX5_readLevel_54 rfl (lv_at hl 3 rfl) ?_
      refine lv_icmp_eq (tgt := 59) hx hb dX5_readLevel_55 (by decide) (fun c_227 => ?_) (fun c_227 => ?_)
      · refine lv_aload_n hx hb dX5_readLevel_59 rfl (lv_at hl 2 rfl) ?_
        refine fg_RX5_15 hC hw 8 rfl rfl dX5_readLevel_60 ?_
        refine k_V (wr := ((aWd γ ab a0 a1 a2 a3 a4 a5 a6 a7 a) ++ [(rr, .inr (5, [.ref h, .ref rl, .ref ab, .int mn, .int (rs.1)]))])) 0 gw_497 gw_461 gw_462 gw_2 gw_463 hd_X8_advance hC hw (c_av γ l h hg n rs f hn hok) ⟨show 1 + 1 ≤ (fr + 1) by omega, show 8 + (2 + 11) + 40 ≤ (lo + 24) by omega⟩ ⟨Nat.le_refl _, Nat.le_refl _⟩ hl.1 rfl 9 rfl rfl rfl (Nat.le_of_ble_eq_true rfl) [9, 10] [0, 1, 2, 3, 4, 5, 6, 7, 8] rfl rfl rfl rfl (by decide) dX5_readLevel_63 (fun r w1 H locs hq hw => ?_)
        obtain ⟨rfl, rfl⟩ := hq
        have hw : kW γ A ((aWd γ ab a0 a1 a2 a3 a4 a5 a6 a7 a) ++ [(rr, .inr (5, [.ref h, .ref rl, .ref ab, .int mn, .int (rs.1)]))] ++ (tWd γ h hg n f ((av f n rs).2.1) ((av f n rs).2.2.1) ((av f n rs).2.2.2))) s H locs := hw
        refine W.eq (g2 := F0 m 66 ls []) rfl ?_
        refine lv_aload_n hx hb dX5_readLevel_66 rfl (lv_at hl 2 rfl) ?_
        refine lv_iload_n hx hb dX5_readLevel_67 rfl (lv_at hl 3 rfl) ?_
        refine lv_iconst (v := 1) hx hb dX5_readLevel_68 (by decide) ?_
        refine lv_iadd hx hb dX5_readLevel_69 ?_
        refine lv_topi (fun x_228 ex_228 => ?_)
        obtain rfl : x_228 = 1 := ex_228.trans (by decide)
        refine lv_iload_n hx hb dX5_readLevel_70 rfl (lv_at hl 4 rfl) ?_
        refine k_V (wr := []) 2 gw_606 gw_608 gp_18 gw_14 gw_609 hd_X5_readLevel hC hw (hG (av f n rs) a hA) ⟨show fr + 1 ≤ (fr + 1) by omega, show 8 + (5 + 11) + lo ≤ (lo + 24) by omega⟩ ⟨Nat.le_refl _, Nat.le_refl _⟩ hl.1 rfl 8 rfl rfl rfl (Nat.le_of_ble_eq_true rfl) [8, 9, 10, 0, 1, 2, 3, 4, 5, 6, 7] [] rfl rfl rfl rfl (by decide) dX5_readLevel_71 (fun r w1 H locs hq hw => ?_)
        obtain ⟨rfl, rfl⟩ := hq
        have hw : kW γ A ([(rr, .inr (5, [.ref h, .ref rl, .ref ab, .int mn, .int (((G (av f n rs) a).1).1)]))] ++ (tWd γ h hg n f (((G (av f n rs) a).1).2.1) (((G (av f n rs) a).1).2.2.1) (((G (av f n rs) a).1).2.2.2)) ++ (aWd γ ab a0 a1 a2 a3 a4 a5 a6 a7 ((G (av f n rs) a).2))) s H locs := hw
        refine W.eq (g2 := F0 m 74 ls []) rfl ?_
        refine lv_aload_n hx hb dX5_readLevel_74 rfl (lv_at hl 2 rfl) ?_
        refine fg_RX5_19 hC hw 0 rfl rfl dX5_readLevel_75 ?_
        refine lv_iload hx hb dX5_readLevel_78 (lv_at hl 0 rfl) ?_
        refine k_V (wr := ([(rr, .inr (5, [.ref h, .ref rl, .ref ab, .int mn, .int (((G (av f n rs) a).1).1)]))] ++ (tWd γ h hg n f (((G (av f n rs) a).1).2.1) (((G (av f n rs) a).1).2.2.1) (((G (av f n rs) a).1).2.2.2)))) 1 gw_628 gw_629 gw_630 gw_13 gw_631 hd_X0_addCode hC hw (c_addCode γ l ab a0 a1 a2 a3 a4 a5 a6 a7 ((G (av f n rs) a).2) (F_operationHere f n rs) (hGo _ _ hA)) ⟨show 0 + 1 ≤ (fr + 1) by omega, show 8 + (2 + 11) + 0 ≤ (lo + 24) by omega⟩ ⟨Nat.le_refl _, Nat.le_refl _⟩ hl.1 rfl 3 rfl rfl rfl (Nat.le_of_ble_eq_true rfl) [3, 4, 5, 6, 7, 8, 9, 10] [0, 1, 2] rfl rfl rfl rfl (by decide) dX5_readLevel_80 (fun r w1 H locs hq hw => ?_)
        obtain ⟨rfl, rfl⟩ := hq
        have hw : kW γ A ([(rr, .inr (5, [.ref h, .ref rl, .ref ab, .int mn, .int (((G (av f n rs) a).1).1)]))] ++ (tWd γ h hg n f (((G (av f n rs) a).1).2.1) (((G (av f n rs) a).1).2.2.1) (((G (av f n rs) a).1).2.2.2)) ++ (aWd γ ab a0 a1 a2 a3 a4 a5 a6 a7 (F_addCode ((G (av f n rs) a).2) (F_operationHere f n rs)))) s H locs := hw
        refine W.eq (g2 := F0 m 83 ls []) rfl ?_
        refine lv_iload_n hx hb dX5_readLevel_83 rfl (lv_at hl 3 rfl) ?_
        refine lv_iconst (v := 1) hx hb dX5_readLevel_84 (by decide) ?_
        refine lv_icmp_ne (tgt := 89) hx hb dX5_readLevel_85 (by decide) (fun _ => ?_) (fun h => absurd h (by decide))
        refine lv_iinc (v := (nI (i + 1))) (lv' := [(3, .int (nI (i + 1))), (4, .int (F_operationHere f n rs)), (0, .ref rr), (1, .int 0), (2, .int dp)]) hx hb dX5_readLevel_89 hl (k := 1) rfl (nI_1 i) (by decide) rfl (fun ls hl => ?_)
        refine lv_goto (tgt := 29) hx hb dX5_readLevel_92 (by decide) ?_
        have hE : (F_lvl0 f n G (k + 1) rs a) = (F_lvl0 f n G k ((G (av f n rs) a).1) (F_addCode ((G (av f n rs) a).2) (F_operationHere f n rs))) := by rw [F_lvl0_s, if_pos c_226, if_pos c_227]
        rw [hE]
        exact ih (i + 1) ((G (av f n rs) a).1) (F_addCode ((G (av f n rs) a).2) (F_operationHere f n rs)) (by omega) (ok_addCode (hGo _ _ hA)) _ _ (kW.sub hw [0, 1, 2, 3, 4, 5, 6, 7, 8, 9, 10] rfl rfl) _ (lv_sub hl [0, 2, 3, 4] rfl)
      · have hE : (F_lvl0 f n G (k + 1) rs a) = (rs, a) := by rw [F_lvl0_s, if_pos c_226, if_neg c_227]
        have hw : kW γ A ((aWd γ ab a0 a1 a2 a3 a4 a5 a6 a7 ((F_lvl0 f n G (k + 1) rs a).2)) ++ [(rr, .inr (5, [.ref h, .ref rl, .ref ab, .int mn, .int (((F_lvl0 f n G (k + 1) rs a).1).1)]))] ++ (tWd γ h hg n f (((F_lvl0 f n G (k + 1) rs a).1).2.1) (((F_lvl0 f n G (k + 1) rs a).1).2.2.1) (((F_lvl0 f n G (k + 1) rs a).1).2.2.2))) s H locs := by first | (rw [hE]; exact hw) | exact hw
        exact k_vret hC hr hlocks hw [8, 9, 10, 0, 1, 2, 3, 4, 5, 6, 7] rfl rfl ⟨rfl, rfl⟩ (Nat.le_refl _) (Nat.le_refl _) dX5_readLevel_58

def F_lev0 (f : Nat → Int32) (n : Nat) (G : rRS → aAS → rRS × aAS) (rs : rRS) (a : aAS) : rRS × aAS :=
  if (rs.1) = 0 then (F_lvl0 f n G 1000 ((G rs a).1) ((G rs a).2)) else (rs, a)
set_option maxHeartbeats 4000000 in
set_option maxRecDepth 100000 in
theorem c_lev0 (γ : kΓ) (l : Launch) (rr : Nat) (rl : Nat) (ab : Nat) (mn : Int32) (h : Nat) (hg : Nat) (n : Nat) (rs : rRS) (f : Nat → Int32) (a0 : Nat) (a1 : Nat) (a2 : Nat) (a3 : Nat) (a4 : Nat) (a5 : Nat) (a6 : Nat) (a7 : Nat) (a : aAS) (G : rRS → aAS → rRS × aAS) (fr : Nat) (lo : Nat) (dp : Int32) (hn : n ≤ 1000) (hok : ∀ k, k < n → kok (f k) = true) (hA : aOK a) (hfr : 2 ≤ fr) (hlo : 60 ≤ lo) (hG : ∀ (rs : rRS) (a : aAS), aOK a → kM γ l yX5_readLevel cX5_readLevel 5 none ({ frames := fr, cells := 0, slots := 0, locals := lo } : Room) [.ref rr, .int 1, .int dp] ([(rr, .inr (5, [.ref h, .ref rl, .ref ab, .int mn, .int (rs.1)]))] ++ (tWd γ h hg n f (rs.2.1) (rs.2.2.1) (rs.2.2.2)) ++ (aWd γ ab a0 a1 a2 a3 a4 a5 a6 a7 a)) (fun r w1 => r = none ∧ w1 = ([(rr, .inr (5, [.ref h, .ref rl, .ref ab, .int mn, .int (((G rs a).1).1)]))] ++ (tWd γ h hg n f (((G rs a).1).2.1) (((G rs a).1).2.2.1) (((G rs a).1).2.2.2)) ++ (aWd γ ab a0 a1 a2 a3 a4 a5 a6 a7 ((G rs a).2))))) (hGo : ∀ (rs : rRS) (a : aAS), aOK a → aOK (G rs a).2) : kM γ l yX5_readLevel cX5_readLevel 5 none ({ frames := (fr + 1), cells := 0, slots := 0, locals := (lo + 24) } : Room) [.ref rr, .int 0, .int dp] ([(rr, .inr (5, [.ref h, .ref rl, .ref ab, .int mn, .int (rs.1)]))] ++ (tWd γ h hg n f (rs.2.1) (rs.2.2.1) (rs.2.2.2)) ++ (aWd γ ab a0 a1 a2 a3 a4 a5 a6 a7 a)) (fun r w1 => r = none ∧ w1 = ([(rr, .inr (5, [.ref h, .ref rl, .ref ab, .int mn, .int (((F_lev0 f n G rs a).1).1)]))] ++ (tWd γ h hg n f (((F_lev0 f n G rs a).1).2.1) (((F_lev0 f n G rs a).1).2.2.1) (((F_lev0 f n G rs a).1).2.2.2)) ++ (aWd γ ab a0 a1 a2 a3 a4 a5 a6 a7 ((F_lev0 f n G rs a).2)))) := by
  refine k_ofW (by decide) (Nat.le_of_ble_eq_true rfl) ?_
  intro p9 e s m below meth c A ls hC hr hlocks hname hw hl
  have hx := hC.1
  have hb := hC.2.1
  have hl : lv_has ls 5 [(0, .ref rr), (1, .int 0), (2, .int dp)] := hl
  have hT : (a.2.2.2.2.2.2.2.1) ≤ 8 := hA.1
  have hQ : (a.2.2.2.2.2.2.2.2.1) ≤ 5 := hA.2.1
  have hE9 : (a.2.2.2.2.2.2.2.2.2.2.2.2.2.1) ≤ 1000 := hA.2.2
  refine lv_aload_n hx hb dX5_readLevel_0 rfl (lv_at hl 0 rfl) ?_
  refine fg_RX5_91 hC hw 0 rfl rfl dX5_readLevel_1 ?_
  refine lv_if_eq (tgt := 8) hx hb dX5_readLevel_4 (by decide) (fun c_231 => ?_) (fun c_231 => ?_)
  · refine lv_iload_n hx hb dX5_readLevel_8 rfl (lv_at hl 1 rfl) ?_
    refine lv_iconst (v := 4) hx hb dX5_readLevel_9 (by decide) ?_
    refine lv_icmp_lt (tgt := 19) hx hb dX5_readLevel_10 (by decide) (fun _ => ?_) (fun h => absurd (by decide) h)
    refine lv_aload_n hx hb dX5_readLevel_19 rfl (lv_at hl 0 rfl) ?_
    refine lv_iload_n hx hb dX5_readLevel_20 rfl (lv_at hl 1 rfl) ?_
    refine lv_iconst (v := 1) hx hb dX5_readLevel_21 (by decide) ?_
    refine lv_iadd hx hb dX5_readLevel_22 ?_
    refine lv_topi (fun x_232 ex_232 => ?_)
    obtain rfl : x_232 = 1 := ex_232.trans (by decide)
    refine lv_iload_n hx hb dX5_readLevel_23 rfl (lv_at hl 2 rfl) ?_
    refine k_V (wr := []) 2 gw_606 gw_608 gp_18 gw_14 gw_609 hd_X5_readLevel hC hw (hG rs a hA) ⟨show fr + 1 ≤ (fr + 1) by omega, show 8 + (5 + 11) + lo ≤ (lo + 24) by omega⟩ ⟨Nat.le_refl _, Nat.le_refl _⟩ hl.1 rfl 0 rfl rfl rfl (Nat.le_of_ble_eq_true rfl) [0, 1, 2, 3, 4, 5, 6, 7, 8, 9, 10] [] rfl rfl rfl rfl (by decide) dX5_readLevel_24 (fun r w1 H locs hq hw => ?_)
    obtain ⟨rfl, rfl⟩ := hq
    have hw : kW γ A ([(rr, .inr (5, [.ref h, .ref rl, .ref ab, .int mn, .int (((G rs a).1).1)]))] ++ (tWd γ h hg n f (((G rs a).1).2.1) (((G rs a).1).2.2.1) (((G rs a).1).2.2.2)) ++ (aWd γ ab a0 a1 a2 a3 a4 a5 a6 a7 ((G rs a).2))) s H locs := hw
    refine W.eq (g2 := F0 m 27 ls []) rfl ?_
    refine lv_iconst (v := 0) hx hb dX5_readLevel_27 (by decide) ?_
    refine lv_istore_n (lv' := [(3, .int 0), (0, .ref rr), (1, .int 0), (2, .int dp)]) hx hb dX5_readLevel_28 rfl hl (by decide) rfl (fun ls hl => ?_)
    have hE : (F_lev0 f n G rs a) = (F_lvl0 f n G 1000 ((G rs a).1) ((G rs a).2)) := by unfold F_lev0; rw [if_pos c_231]
    rw [hE]
    exact lp_lvl0 rr rl ab mn h hg n f a0 a1 a2 a3 a4 a5 a6 a7 G fr lo dp hn hok hfr hlo hG hGo hC hr hlocks 1000 0 ((G rs a).1) ((G rs a).2) rfl (hGo _ _ hA) _ _ (kW.sub hw [0, 1, 2, 3, 4, 5, 6, 7, 8, 9, 10] rfl rfl) _ (lv_sub hl [0, 1, 2, 3] rfl)
  · have hE : (F_lev0 f n G rs a) = (rs, a) := by unfold F_lev0; rw [if_neg c_231]
    have hw : kW γ A ([(rr, .inr (5, [.ref h, .ref rl, .ref ab, .int mn, .int (((F_lev0 f n G rs a).1).1)]))] ++ (tWd γ h hg n f (((F_lev0 f n G rs a).1).2.1) (((F_lev0 f n G rs a).1).2.2.1) (((F_lev0 f n G rs a).1).2.2.2)) ++ (aWd γ ab a0 a1 a2 a3 a4 a5 a6 a7 ((F_lev0 f n G rs a).2))) s s.heap [] := by first | (rw [hE]; exact hw) | exact hw
    exact k_vret hC hr hlocks hw [0, 1, 2, 3, 4, 5, 6, 7, 8, 9, 10] rfl rfl ⟨rfl, rfl⟩ (Nat.le_refl _) (Nat.le_refl _) dX5_readLevel_7

theorem ok_lvl0 {f : Nat → Int32} {n : Nat} {G : rRS → aAS → rRS × aAS} (hGo : ∀ (rs : rRS) (a : aAS), aOK a → aOK (G rs a).2) : ∀ (k : Nat) (rs : rRS) (a : aAS), aOK a → aOK (F_lvl0 f n G k rs a).2
  | 0, rs, a, hA => hA
  | k + 1, rs, a, hA => by
    rw [F_lvl0_s]
    repeat' split
    all_goals first | exact hA | exact ok_lvl0 hGo k _ _ (ok_addCode (hGo _ _ hA)) | exact ok_addCode (hGo _ _ hA)

theorem ok_lev0 {f : Nat → Int32} {n : Nat} {G : rRS → aAS → rRS × aAS} {rs : rRS} {a : aAS} (hGo : ∀ (rs : rRS) (a : aAS), aOK a → aOK (G rs a).2) (hA : aOK a) : aOK (F_lev0 f n G rs a).2 := by
  unfold F_lev0
  split
  · exact ok_lvl0 hGo _ _ _ (hGo _ _ hA)
  · exact hA


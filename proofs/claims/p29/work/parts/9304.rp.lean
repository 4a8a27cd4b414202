theorem dX12_within_0 : decode cX12_within 0 = .ok (.iload_n 0, 1) := by decide +kernel
theorem dX12_within_1 : decode cX12_within 1 = .ok (.iload_n 1, 1) := by decide +kernel
theorem dX12_within_2 : decode cX12_within 2 = .ok (.if_icmp .lt 12, 3) := by decide +kernel
theorem dX12_within_5 : decode cX12_within 5 = .ok (.iload_n 0, 1) := by decide +kernel
theorem dX12_within_6 : decode cX12_within 6 = .ok (.iload_n 2, 1) := by decide +kernel
theorem dX12_within_7 : decode cX12_within 7 = .ok (.if_icmp .gt 7, 3) := by decide +kernel
theorem dX12_within_10 : decode cX12_within 10 = .ok (.iconst 1, 1) := by decide +kernel
theorem dX12_within_11 : decode cX12_within 11 = .ok (.goto 4, 3) := by decide +kernel
theorem dX12_within_14 : decode cX12_within 14 = .ok (.iconst 0, 1) := by decide +kernel
theorem dX12_within_15 : decode cX12_within 15 = .ok (.ireturn, 1) := by decide +kernel
set_option maxHeartbeats 4000000 in
theorem c_within_t (γ : kΓ) (l : Launch) (v : Int32) (lo : Int32) (hi : Int32) (h1 : ¬ v < lo) (h2 : ¬ hi < v) : kM γ l yX12_within cX12_within 3 ((some .boolean)) ({ frames := 0, cells := 0, slots := 0, locals := 0 } : Room) [.int v, .int lo, .int hi] [] (fun r w1 => r = some (.int 1) ∧ w1 = []) := by
  refine k_ofW (by decide) (Nat.le_of_ble_eq_true rfl) ?_
  intro p e s m below meth c A ls hC hr hlocks hname hw hl
  have hx := hC.1
  have hb := hC.2.1
  have hl : lv_has ls 3 [(0, .int v), (1, .int lo), (2, .int hi)] := hl
  refine lv_iload_n hx hb dX12_within_0 rfl (lv_at hl 0 rfl) ?_
  refine lv_iload_n hx hb dX12_within_1 rfl (lv_at hl 1 rfl) ?_
  refine lv_icmp_lt (tgt := 14) hx hb dX12_within_2 (by decide) (fun h => absurd h h1) (fun _ => ?_)
  refine lv_iload_n hx hb dX12_within_5 rfl (lv_at hl 0 rfl) ?_
  refine lv_iload_n hx hb dX12_within_6 rfl (lv_at hl 2 rfl) ?_
  refine lv_icmp_gt (tgt := 14) hx hb dX12_within_7 (by decide) (fun h => absurd h h2) (fun _ => ?_)
  refine lv_iconst (v := 1) hx hb dX12_within_10 (by decide) ?_
  refine lv_goto (tgt := 15) hx hb dX12_within_11 (by decide) ?_
  exact k_zret hC hr hlocks rfl hw [] rfl rfl ⟨rfl, rfl⟩ (by decide) (by decide) dX12_within_15
set_option maxHeartbeats 4000000 in
theorem c_within_l (γ : kΓ) (l : Launch) (v : Int32) (lo : Int32) (hi : Int32) (h1 : v < lo) : kM γ l yX12_within cX12_within 3 ((some .boolean)) ({ frames := 0, cells := 0, slots := 0, locals := 0 } : Room) [.int v, .int lo, .int hi] [] (fun r w1 => r = some (.int 0) ∧ w1 = []) := by
  refine k_ofW (by decide) (Nat.le_of_ble_eq_true rfl) ?_
  intro p e s m below meth c A ls hC hr hlocks hname hw hl
  have hx := hC.1
  have hb := hC.2.1
  have hl : lv_has ls 3 [(0, .int v), (1, .int lo), (2, .int hi)] := hl
  refine lv_iload_n hx hb dX12_within_0 rfl (lv_at hl 0 rfl) ?_
  refine lv_iload_n hx hb dX12_within_1 rfl (lv_at hl 1 rfl) ?_
  refine lv_icmp_lt (tgt := 14) hx hb dX12_within_2 (by decide) (fun _ => ?_) (fun h => absurd h1 h)
  refine lv_iconst (v := 0) hx hb dX12_within_14 (by decide) ?_
  exact k_zret hC hr hlocks rfl hw [] rfl rfl ⟨rfl, rfl⟩ (by decide) (by decide) dX12_within_15
set_option maxHeartbeats 4000000 in
theorem c_within_h (γ : kΓ) (l : Launch) (v : Int32) (lo : Int32) (hi : Int32) (h1 : ¬ v < lo) (h2 : hi < v) : kM γ l yX12_within cX12_within 3 ((some .boolean)) ({ frames := 0, cells := 0, slots := 0, locals := 0 } : Room) [.int v, .int lo, .int hi] [] (fun r w1 => r = some (.int 0) ∧ w1 = []) := by
  refine k_ofW (by decide) (Nat.le_of_ble_eq_true rfl) ?_
  intro p e s m below meth c A ls hC hr hlocks hname hw hl
  have hx := hC.1
  have hb := hC.2.1
  have hl : lv_has ls 3 [(0, .int v), (1, .int lo), (2, .int hi)] := hl
  refine lv_iload_n hx hb dX12_within_0 rfl (lv_at hl 0 rfl) ?_
  refine lv_iload_n hx hb dX12_within_1 rfl (lv_at hl 1 rfl) ?_
  refine lv_icmp_lt (tgt := 14) hx hb dX12_within_2 (by decide) (fun h => absurd h h1) (fun _ => ?_)
  refine lv_iload_n hx hb dX12_within_5 rfl (lv_at hl 0 rfl) ?_
  refine lv_iload_n hx hb dX12_within_6 rfl (lv_at hl 2 rfl) ?_
  refine lv_icmp_gt (tgt := 14) hx hb dX12_within_7 (by decide) (fun _ => ?_) (fun h => absurd h2 h)
  refine lv_iconst (v := 0) hx hb dX12_within_14 (by decide) ?_
  exact k_zret hC hr hlocks rfl hw [] rfl rfl ⟨rfl, rfl⟩ (by decide) (by decide) dX12_within_15
theorem dX11_gotBy_0 : decode cX11_gotBy 0 = .ok (.iload_n 0, 1) := by decide +kernel
theorem dX11_gotBy_1 : decode cX11_gotBy 1 = .ok (.iconst 1, 1) := by decide +kernel
theorem dX11_gotBy_2 : decode cX11_gotBy 2 = .ok (.if_icmp .ne 15, 3) := by decide +kernel
theorem dX11_gotBy_5 : decode cX11_gotBy 5 = .ok (.iload_n 1, 1) := by decide +kernel
theorem dX11_gotBy_6 : decode cX11_gotBy 6 = .ok (.iconst 1, 1) := by decide +kernel
theorem dX11_gotBy_7 : decode cX11_gotBy 7 = .ok (.if_icmp .ne 7, 3) := by decide +kernel
theorem dX11_gotBy_10 : decode cX11_gotBy 10 = .ok (.iload_n 2, 1) := by decide +kernel
theorem dX11_gotBy_11 : decode cX11_gotBy 11 = .ok (.goto 5, 3) := by decide +kernel
theorem dX11_gotBy_14 : decode cX11_gotBy 14 = .ok (.iload_n 3, 1) := by decide +kernel
theorem dX11_gotBy_15 : decode cX11_gotBy 15 = .ok (.ineg, 1) := by decide +kernel
theorem dX11_gotBy_16 : decode cX11_gotBy 16 = .ok (.ireturn, 1) := by decide +kernel
theorem dX11_gotBy_17 : decode cX11_gotBy 17 = .ok (.iload_n 1, 1) := by decide +kernel
theorem dX11_gotBy_18 : decode cX11_gotBy 18 = .ok (.iconst 1, 1) := by decide +kernel
theorem dX11_gotBy_19 : decode cX11_gotBy 19 = .ok (.if_icmp .ne 8, 3) := by decide +kernel
theorem dX11_gotBy_22 : decode cX11_gotBy 22 = .ok (.iload 4, 2) := by decide +kernel
theorem dX11_gotBy_24 : decode cX11_gotBy 24 = .ok (.goto 4, 3) := by decide +kernel
theorem dX11_gotBy_27 : decode cX11_gotBy 27 = .ok (.iconst 0, 1) := by decide +kernel
theorem dX11_gotBy_28 : decode cX11_gotBy 28 = .ok (.ireturn, 1) := by decide +kernel
theorem dX12_getsBy_0 : decode cX12_getsBy 0 = .ok (.iload_n 3, 1) := by decide +kernel
theorem dX12_getsBy_1 : decode cX12_getsBy 1 = .ok (.iconst 1, 1) := by decide +kernel
theorem dX12_getsBy_2 : decode cX12_getsBy 2 = .ok (.if_icmp .ne 18, 3) := by decide +kernel
theorem dX12_getsBy_5 : decode cX12_getsBy 5 = .ok (.iload 4, 2) := by decide +kernel
theorem dX12_getsBy_7 : decode cX12_getsBy 7 = .ok (.iconst 1, 1) := by decide +kernel
theorem dX12_getsBy_8 : decode cX12_getsBy 8 = .ok (.if_icmp .ne 7, 3) := by decide +kernel
theorem dX12_getsBy_11 : decode cX12_getsBy 11 = .ok (.iload_n 0, 1) := by decide +kernel
theorem dX12_getsBy_12 : decode cX12_getsBy 12 = .ok (.goto 19, 3) := by decide +kernel
theorem dX12_getsBy_15 : decode cX12_getsBy 15 = .ok (.iload_n 1, 1) := by decide +kernel
theorem dX12_getsBy_16 : decode cX12_getsBy 16 = .ok (.ineg, 1) := by decide +kernel
theorem dX12_getsBy_17 : decode cX12_getsBy 17 = .ok (.goto 14, 3) := by decide +kernel
theorem dX12_getsBy_20 : decode cX12_getsBy 20 = .ok (.iload 4, 2) := by decide +kernel
theorem dX12_getsBy_22 : decode cX12_getsBy 22 = .ok (.iconst 1, 1) := by decide +kernel
theorem dX12_getsBy_23 : decode cX12_getsBy 23 = .ok (.if_icmp .ne 7, 3) := by decide +kernel
theorem dX12_getsBy_26 : decode cX12_getsBy 26 = .ok (.iload_n 2, 1) := by decide +kernel
theorem dX12_getsBy_27 : decode cX12_getsBy 27 = .ok (.goto 4, 3) := by decide +kernel
theorem dX12_getsBy_30 : decode cX12_getsBy 30 = .ok (.iconst 0, 1) := by decide +kernel
theorem dX12_getsBy_31 : decode cX12_getsBy 31 = .ok (.ireturn, 1) := by decide +kernel
theorem dX11_isContent_0 : decode cX11_isContent 0 = .ok (.iconst 1, 1) := by decide +kernel
theorem dX11_isContent_1 : decode cX11_isContent 1 = .ok (.iload_n 0, 1) := by decide +kernel
theorem dX11_isContent_2 : decode cX11_isContent 2 = .ok (.isub, 1) := by decide +kernel
theorem dX11_isContent_3 : decode cX11_isContent 3 = .ok (.iload_n 1, 1) := by decide +kernel
theorem dX11_isContent_4 : decode cX11_isContent 4 = .ok (.iload_n 2, 1) := by decide +kernel
theorem dX11_isContent_5 : decode cX11_isContent 5 = .ok (.iload_n 3, 1) := by decide +kernel
theorem dX11_isContent_6 : decode cX11_isContent 6 = .ok (.iload 4, 2) := by decide +kernel
theorem dX11_isContent_8 : decode cX11_isContent 8 = .ok (.invokestatic 335, 3) := by decide +kernel
theorem dX11_isContent_11 : decode cX11_isContent 11 = .ok (.iload_n 0, 1) := by decide +kernel
theorem dX11_isContent_12 : decode cX11_isContent 12 = .ok (.iload_n 1, 1) := by decide +kernel
theorem dX11_isContent_13 : decode cX11_isContent 13 = .ok (.iload_n 2, 1) := by decide +kernel
theorem dX11_isContent_14 : decode cX11_isContent 14 = .ok (.iload_n 3, 1) := by decide +kernel
theorem dX11_isContent_15 : decode cX11_isContent 15 = .ok (.iload 4, 2) := by decide +kernel
theorem dX11_isContent_17 : decode cX11_isContent 17 = .ok (.invokestatic 335, 3) := by decide +kernel
theorem dX11_isContent_20 : decode cX11_isContent 20 = .ok (.if_icmp .gt 7, 3) := by decide +kernel
theorem dX11_isContent_23 : decode cX11_isContent 23 = .ok (.iconst 1, 1) := by decide +kernel
theorem dX11_isContent_24 : decode cX11_isContent 24 = .ok (.goto 4, 3) := by decide +kernel
theorem dX11_isContent_27 : decode cX11_isContent 27 = .ok (.iconst 0, 1) := by decide +kernel
theorem dX11_isContent_28 : decode cX11_isContent 28 = .ok (.ireturn, 1) := by decide +kernel
theorem dX11_isStake_0 : decode cX11_isStake 0 = .ok (.iload_n 0, 1) := by decide +kernel
theorem dX11_isStake_1 : decode cX11_isStake 1 = .ok (.ifCond .lt 13, 3) := by decide +kernel
theorem dX11_isStake_4 : decode cX11_isStake 4 = .ok (.iload_n 0, 1) := by decide +kernel
theorem dX11_isStake_5 : decode cX11_isStake 5 = .ok (.bipush 9, 2) := by decide +kernel
theorem dX11_isStake_7 : decode cX11_isStake 7 = .ok (.if_icmp .gt 7, 3) := by decide +kernel
theorem dX11_isStake_10 : decode cX11_isStake 10 = .ok (.iconst 1, 1) := by decide +kernel
theorem dX11_isStake_11 : decode cX11_isStake 11 = .ok (.goto 4, 3) := by decide +kernel
theorem dX11_isStake_14 : decode cX11_isStake 14 = .ok (.iconst 0, 1) := by decide +kernel
theorem dX11_isStake_15 : decode cX11_isStake 15 = .ok (.ireturn, 1) := by decide +kernel
def kgot (o q bo lo ge : Int32) : Int32 := if o = 1 then (if q = 1 then bo else -lo) else (if q = 1 then ge else 0)
def kcb (a b bo lo ge : Int32) : Bool := decide (kgot (1 - a) b bo lo ge ≤ kgot a b bo lo ge)
def kRA : Nat → Int32
  | 0 => 1
  | 1 => 1
  | _ => 0
def kRB : Nat → Int32
  | 0 => 1
  | 1 => 0
  | 2 => 1
  | _ => 0
def kRK : Nat → Int32
  | 0 => 3
  | 1 => 2
  | 2 => 1
  | _ => 0
def kR (bo lo ge wh : Int32) : Nat → Int32 → Option Int32
  | 0, mn => if wh = -1 then some mn else none
  | j + 1, mn => if (kcb (kRA j) (kRB j) bo lo ge && kcb (kRB j) (kRA j) bo lo ge) = true then (if mn = wh then some (kRK j) else kR bo lo ge wh j (mn + 1)) else kR bo lo ge wh j mn
theorem kR_n1 {bo lo ge wh mn : Int32} {j : Nat} {o : Option Int32} (hK : kR bo lo ge wh (j + 1) mn = o) (h : kcb (kRA j) (kRB j) bo lo ge = false) : kR bo lo ge wh j mn = o := by
  rw [kR, h] at hK; exact hK
theorem kR_n2 {bo lo ge wh mn : Int32} {j : Nat} {o : Option Int32} (hK : kR bo lo ge wh (j + 1) mn = o) (h : kcb (kRB j) (kRA j) bo lo ge = false) : kR bo lo ge wh j mn = o := by
  rw [kR, h, Bool.and_false] at hK; exact hK
theorem kR_c {bo lo ge wh mn : Int32} {j : Nat} {o : Option Int32} (hK : kR bo lo ge wh (j + 1) mn = o) (h1 : kcb (kRA j) (kRB j) bo lo ge = true) (h2 : kcb (kRB j) (kRA j) bo lo ge = true) (hn : ¬ mn = wh) : kR bo lo ge wh j (mn + 1) = o := by
  rw [kR, h1, h2, Bool.and_true, if_pos rfl, if_neg hn] at hK; exact hK
theorem kR_e {bo lo ge wh mn : Int32} {j : Nat} {o : Option Int32} (hK : kR bo lo ge wh (j + 1) mn = o) (h1 : kcb (kRA j) (kRB j) bo lo ge = true) (h2 : kcb (kRB j) (kRA j) bo lo ge = true) (hn : mn = wh) : some (kRK j) = o := by
  rw [kR, h1, h2, Bool.and_true, if_pos rfl, if_pos hn] at hK; exact hK
theorem kR_0s {bo lo ge wh mn v : Int32} (hK : kR bo lo ge wh 0 mn = some v) : wh = -1 ∧ mn = v := by
  rw [kR] at hK
  by_cases h : wh = -1
  · rw [if_pos h] at hK; exact ⟨h, Option.some.inj hK⟩
  · rw [if_neg h] at hK; cases hK
theorem kR_0n {bo lo ge wh mn : Int32} (hK : kR bo lo ge wh 0 mn = none) : ¬ wh = -1 := by
  intro h
  rw [kR, if_pos h] at hK; cases hK
theorem kcb_f {a a1 b bo lo ge r1 r2 : Int32} (e : a1 = 1 - a) (h1 : r1 = kgot a1 b bo lo ge) (h2 : r2 = kgot a b bo lo ge) (h : ¬ r1 ≤ r2) : kcb a b bo lo ge = false := by
  unfold kcb; rw [← e, ← h1, ← h2]; exact decide_eq_false h
theorem kcb_t {a a1 b bo lo ge r1 r2 : Int32} (e : a1 = 1 - a) (h1 : r1 = kgot a1 b bo lo ge) (h2 : r2 = kgot a b bo lo ge) (h : r1 ≤ r2) : kcb a b bo lo ge = true := by
  unfold kcb; rw [← e, ← h1, ← h2]; exact decide_eq_true h

set_option maxHeartbeats 4000000 in
set_option maxRecDepth 100000 in
theorem c_X11_gotBy (γ : kΓ) (l : Launch) (ow : Int32) (ot : Int32) (bo : Int32) (lo : Int32) (ge : Int32) : kM γ l yX11_gotBy cX11_gotBy 5 ((some .int)) ({ frames := 0, cells := 0, slots := 0, locals := 0 } : Room) [.int ow, .int ot, .int bo, .int lo, .int ge] [] (fun r w1 => ∃ (r9 : Int32), r = some (.int r9) ∧ w1 = [] ∧ (r9 = kgot ow ot bo lo ge)) := by
  refine k_ofW (by decide) (Nat.le_of_ble_eq_true rfl) ?_
  intro p e s m below meth c A ls hC hr hlocks hname hw hl
  have hx := hC.1
  have hb := hC.2.1
  have hl : lv_has ls 5 [(0, .int ow), (1, .int ot), (2, .int bo), (3, .int lo), (4, .int ge)] := hl
  refine lv_iload_n hx hb dX11_gotBy_0 rfl (lv_at hl 0 rfl) ?_
  refine lv_iconst (v := 1) hx hb dX11_gotBy_1 (by decide) ?_
  refine lv_icmp_ne (tgt := 17) hx hb dX11_gotBy_2 (by decide) (fun c2 => ?_) (fun c2 => ?_)
  · refine lv_iload_n hx hb dX11_gotBy_17 rfl (lv_at hl 1 rfl) ?_
    refine lv_iconst (v := 1) hx hb dX11_gotBy_18 (by decide) ?_
    refine lv_icmp_ne (tgt := 27) hx hb dX11_gotBy_19 (by decide) (fun c19 => ?_) (fun c19 => ?_)
    · refine lv_iconst (v := 0) hx hb dX11_gotBy_27 (by decide) ?_
      exact k_iret hC hr hlocks hw [] rfl rfl ⟨0, rfl, rfl, (by unfold kgot; first | (rw [if_pos c2, if_pos c7]) | (rw [if_pos c2, if_neg c7]; assumption) | (rw [if_neg c2, if_pos c19]) | (rw [if_neg c2, if_neg c19]))⟩ (by decide) (by decide) dX11_gotBy_28
    · refine lv_iload hx hb dX11_gotBy_22 (lv_at hl 4 rfl) ?_
      refine lv_goto (tgt := 28) hx hb dX11_gotBy_24 (by decide) ?_
      exact k_iret hC hr hlocks hw [] rfl rfl ⟨ge, rfl, rfl, (by unfold kgot; first | (rw [if_pos c2, if_pos c7]) | (rw [if_pos c2, if_neg c7]; assumption) | (rw [if_neg c2, if_pos c19]) | (rw [if_neg c2, if_neg c19]))⟩ (by decide) (by decide) dX11_gotBy_28
  · refine lv_iload_n hx hb dX11_gotBy_5 rfl (lv_at hl 1 rfl) ?_
    refine lv_iconst (v := 1) hx hb dX11_gotBy_6 (by decide) ?_
    refine lv_icmp_ne (tgt := 14) hx hb dX11_gotBy_7 (by decide) (fun c7 => ?_) (fun c7 => ?_)
    · refine lv_iload_n hx hb dX11_gotBy_14 rfl (lv_at hl 3 rfl) ?_
      refine lv_ineg hx hb dX11_gotBy_15 ?_
      refine lv_topi (fun x_1723 ex_1723 => ?_)
      exact k_iret hC hr hlocks hw [] rfl rfl ⟨x_1723, rfl, rfl, (by unfold kgot; first | (rw [if_pos c2, if_pos c7]) | (rw [if_pos c2, if_neg c7]; assumption) | (rw [if_neg c2, if_pos c19]) | (rw [if_neg c2, if_neg c19]))⟩ (by decide) (by decide) dX11_gotBy_16
    · refine lv_iload_n hx hb dX11_gotBy_10 rfl (lv_at hl 2 rfl) ?_
      refine lv_goto (tgt := 16) hx hb dX11_gotBy_11 (by decide) ?_
      exact k_iret hC hr hlocks hw [] rfl rfl ⟨bo, rfl, rfl, (by unfold kgot; first | (rw [if_pos c2, if_pos c7]) | (rw [if_pos c2, if_neg c7]; assumption) | (rw [if_neg c2, if_pos c19]) | (rw [if_neg c2, if_neg c19]))⟩ (by decide) (by decide) dX11_gotBy_16

set_option maxHeartbeats 4000000 in
set_option maxRecDepth 100000 in
theorem c_X12_getsBy (γ : kΓ) (l : Launch) (bo : Int32) (lo : Int32) (ge : Int32) (mi : Int32) (hi : Int32) : kM γ l yX12_getsBy cX12_getsBy 5 ((some .int)) ({ frames := 0, cells := 0, slots := 0, locals := 0 } : Room) [.int bo, .int lo, .int ge, .int mi, .int hi] [] (fun r w1 => ∃ (r9 : Int32), r = some (.int r9) ∧ w1 = [] ∧ (r9 = kgot mi hi bo lo ge)) := by
  refine k_ofW (by decide) (Nat.le_of_ble_eq_true rfl) ?_
  intro p e s m below meth c A ls hC hr hlocks hname hw hl
  have hx := hC.1
  have hb := hC.2.1
  have hl : lv_has ls 5 [(0, .int bo), (1, .int lo), (2, .int ge), (3, .int mi), (4, .int hi)] := hl
  refine lv_iload_n hx hb dX12_getsBy_0 rfl (lv_at hl 3 rfl) ?_
  refine lv_iconst (v := 1) hx hb dX12_getsBy_1 (by decide) ?_
  refine lv_icmp_ne (tgt := 20) hx hb dX12_getsBy_2 (by decide) (fun c2 => ?_) (fun c2 => ?_)
  · refine lv_iload hx hb dX12_getsBy_20 (lv_at hl 4 rfl) ?_
    refine lv_iconst (v := 1) hx hb dX12_getsBy_22 (by decide) ?_
    refine lv_icmp_ne (tgt := 30) hx hb dX12_getsBy_23 (by decide) (fun c23 => ?_) (fun c23 => ?_)
    · refine lv_iconst (v := 0) hx hb dX12_getsBy_30 (by decide) ?_
      exact k_iret hC hr hlocks hw [] rfl rfl ⟨0, rfl, rfl, (by unfold kgot; first | (rw [if_pos c2, if_pos c8]) | (rw [if_pos c2, if_neg c8]; assumption) | (rw [if_neg c2, if_pos c23]) | (rw [if_neg c2, if_neg c23]))⟩ (by decide) (by decide) dX12_getsBy_31
    · refine lv_iload_n hx hb dX12_getsBy_26 rfl (lv_at hl 2 rfl) ?_
      refine lv_goto (tgt := 31) hx hb dX12_getsBy_27 (by decide) ?_
      exact k_iret hC hr hlocks hw [] rfl rfl ⟨ge, rfl, rfl, (by unfold kgot; first | (rw [if_pos c2, if_pos c8]) | (rw [if_pos c2, if_neg c8]; assumption) | (rw [if_neg c2, if_pos c23]) | (rw [if_neg c2, if_neg c23]))⟩ (by decide) (by decide) dX12_getsBy_31
  · refine lv_iload hx hb dX12_getsBy_5 (lv_at hl 4 rfl) ?_
    refine lv_iconst (v := 1) hx hb dX12_getsBy_7 (by decide) ?_
    refine lv_icmp_ne (tgt := 15) hx hb dX12_getsBy_8 (by decide) (fun c8 => ?_) (fun c8 => ?_)
    · refine lv_iload_n hx hb dX12_getsBy_15 rfl (lv_at hl 1 rfl) ?_
      refine lv_ineg hx hb dX12_getsBy_16 ?_
      refine lv_topi (fun x_1724 ex_1724 => ?_)
      refine lv_goto (tgt := 31) hx hb dX12_getsBy_17 (by decide) ?_
      exact k_iret hC hr hlocks hw [] rfl rfl ⟨x_1724, rfl, rfl, (by unfold kgot; first | (rw [if_pos c2, if_pos c8]) | (rw [if_pos c2, if_neg c8]; assumption) | (rw [if_neg c2, if_pos c23]) | (rw [if_neg c2, if_neg c23]))⟩ (by decide) (by decide) dX12_getsBy_31
    · refine lv_iload_n hx hb dX12_getsBy_11 rfl (lv_at hl 0 rfl) ?_
      refine lv_goto (tgt := 31) hx hb dX12_getsBy_12 (by decide) ?_
      exact k_iret hC hr hlocks hw [] rfl rfl ⟨bo, rfl, rfl, (by unfold kgot; first | (rw [if_pos c2, if_pos c8]) | (rw [if_pos c2, if_neg c8]; assumption) | (rw [if_neg c2, if_pos c23]) | (rw [if_neg c2, if_neg c23]))⟩ (by decide) (by decide) dX12_getsBy_31

set_option maxHeartbeats 4000000 in
set_option maxRecDepth 100000 in
theorem c_X11_isContent (γ : kΓ) (l : Launch) (ow : Int32) (ot : Int32) (bo : Int32) (lo : Int32) (ge : Int32) : kM γ l yX11_isContent cX11_isContent 5 ((some .boolean)) ({ frames := 1, cells := 0, slots := 0, locals := 24 } : Room) [.int ow, .int ot, .int bo, .int lo, .int ge] [] (fun r w1 => ∃ (r9 : Int32), r = some (.int r9) ∧ w1 = [] ∧ ((r9 = 0 ∧ kcb ow ot bo lo ge = false) ∨ (r9 = 1 ∧ kcb ow ot bo lo ge = true))) := by
  refine k_ofW (by decide) (Nat.le_of_ble_eq_true rfl) ?_
  intro p e s m below meth c A ls hC hr hlocks hname hw hl
  have hx := hC.1
  have hb := hC.2.1
  have hl : lv_has ls 5 [(0, .int ow), (1, .int ot), (2, .int bo), (3, .int lo), (4, .int ge)] := hl
  refine lv_iconst (v := 1) hx hb dX11_isContent_0 (by decide) ?_
  refine lv_iload_n hx hb dX11_isContent_1 rfl (lv_at hl 0 rfl) ?_
  refine lv_isub hx hb dX11_isContent_2 ?_
  refine lv_topi (fun x_1725 ex_1725 => ?_)
  refine lv_iload_n hx hb dX11_isContent_3 rfl (lv_at hl 1 rfl) ?_
  refine lv_iload_n hx hb dX11_isContent_4 rfl (lv_at hl 2 rfl) ?_
  refine lv_iload_n hx hb dX11_isContent_5 rfl (lv_at hl 3 rfl) ?_
  refine lv_iload hx hb dX11_isContent_6 (lv_at hl 4 rfl) ?_
  refine k_S (wr := []) 5 gw_1159 gw_1160 gw_1 gw_1161 hd_X11_gotBy hC hw (c_X11_gotBy γ l x_1725 ot bo lo ge) ⟨by decide, by decide⟩ ⟨by decide, by decide⟩ hl.1 rfl rfl (Nat.le_of_ble_eq_true rfl) [] [] rfl rfl rfl rfl (by decide) dX11_isContent_8 (fun r w1 H locs hq hw => ?_)
  obtain ⟨r9_1726, rfl, rfl, g_1727⟩ := hq
  have hw : kW γ A [] s H locs := hw
  refine W.eq (g2 := F0 m 11 ls [.int r9_1726]) rfl ?_
  refine lv_iload_n hx hb dX11_isContent_11 rfl (lv_at hl 0 rfl) ?_
  refine lv_iload_n hx hb dX11_isContent_12 rfl (lv_at hl 1 rfl) ?_
  refine lv_iload_n hx hb dX11_isContent_13 rfl (lv_at hl 2 rfl) ?_
  refine lv_iload_n hx hb dX11_isContent_14 rfl (lv_at hl 3 rfl) ?_
  refine lv_iload hx hb dX11_isContent_15 (lv_at hl 4 rfl) ?_
  refine k_S (wr := []) 5 gw_1159 gw_1160 gw_1 gw_1161 hd_X11_gotBy hC hw (c_X11_gotBy γ l ow ot bo lo ge) ⟨by decide, by decide⟩ ⟨by decide, by decide⟩ hl.1 rfl rfl (Nat.le_of_ble_eq_true rfl) [] [] rfl rfl rfl rfl (by decide) dX11_isContent_17 (fun r w1 H locs hq hw => ?_)
  obtain ⟨r9_1728, rfl, rfl, g_1729⟩ := hq
  have hw : kW γ A [] s H locs := hw
  refine W.eq (g2 := F0 m 20 ls [.int r9_1728, .int r9_1726]) rfl ?_
  refine lv_icmp_gt (tgt := 27) hx hb dX11_isContent_20 (by decide) (fun c20 => ?_) (fun c20 => ?_)
  · refine lv_iconst (v := 0) hx hb dX11_isContent_27 (by decide) ?_
    exact k_zret hC hr hlocks rfl hw [] rfl rfl ⟨0, rfl, rfl, (Or.inl ⟨rfl, (kcb_f ex_1725 g_1727 g_1729 (Int32.not_le.mpr c20))⟩)⟩ (by decide) (by decide) dX11_isContent_28
  · refine lv_iconst (v := 1) hx hb dX11_isContent_23 (by decide) ?_
    refine lv_goto (tgt := 28) hx hb dX11_isContent_24 (by decide) ?_
    exact k_zret hC hr hlocks rfl hw [] rfl rfl ⟨1, rfl, rfl, (Or.inr ⟨rfl, (kcb_t ex_1725 g_1727 g_1729 (Int32.not_lt.mp c20))⟩)⟩ (by decide) (by decide) dX11_isContent_28

set_option maxHeartbeats 4000000 in
set_option maxRecDepth 100000 in
theorem c_X11_isStake_t (γ : kΓ) (l : Launch) (v : Int32) (h1 : ¬ v < 0) (h2 : ¬ 9 < v) : kM γ l yX11_isStake cX11_isStake 1 ((some .boolean)) ({ frames := 0, cells := 0, slots := 0, locals := 0 } : Room) [.int v] [] (fun r w1 => r = some (.int 1) ∧ w1 = []) := by
  refine k_ofW (by decide) (Nat.le_of_ble_eq_true rfl) ?_
  intro p e s m below meth c A ls hC hr hlocks hname hw hl
  have hx := hC.1
  have hb := hC.2.1
  have hl : lv_has ls 1 [(0, .int v)] := hl
  refine lv_iload_n hx hb dX11_isStake_0 rfl (lv_at hl 0 rfl) ?_
  refine lv_if_lt (tgt := 14) hx hb dX11_isStake_1 (by decide) (fun h => absurd h h1) (fun _ => ?_)
  refine lv_iload_n hx hb dX11_isStake_4 rfl (lv_at hl 0 rfl) ?_
  refine lv_bipush (v := 9) hx hb dX11_isStake_5 (by decide) ?_
  refine lv_icmp_gt (tgt := 14) hx hb dX11_isStake_7 (by decide) (fun h => absurd h h2) (fun _ => ?_)
  refine lv_iconst (v := 1) hx hb dX11_isStake_10 (by decide) ?_
  refine lv_goto (tgt := 15) hx hb dX11_isStake_11 (by decide) ?_
  exact k_zret hC hr hlocks rfl hw [] rfl rfl ⟨rfl, rfl⟩ (by decide) (by decide) dX11_isStake_15

set_option maxHeartbeats 4000000 in
set_option maxRecDepth 100000 in
theorem c_X11_isStake_l (γ : kΓ) (l : Launch) (v : Int32) (h1 : v < 0) : kM γ l yX11_isStake cX11_isStake 1 ((some .boolean)) ({ frames := 0, cells := 0, slots := 0, locals := 0 } : Room) [.int v] [] (fun r w1 => r = some (.int 0) ∧ w1 = []) := by
  refine k_ofW (by decide) (Nat.le_of_ble_eq_true rfl) ?_
  intro p e s m below meth c A ls hC hr hlocks hname hw hl
  have hx := hC.1
  have hb := hC.2.1
  have hl : lv_has ls 1 [(0, .int v)] := hl
  refine lv_iload_n hx hb dX11_isStake_0 rfl (lv_at hl 0 rfl) ?_
  refine lv_if_lt (tgt := 14) hx hb dX11_isStake_1 (by decide) (fun _ => ?_) (fun h => absurd h1 h)
  refine lv_iconst (v := 0) hx hb dX11_isStake_14 (by decide) ?_
  exact k_zret hC hr hlocks rfl hw [] rfl rfl ⟨rfl, rfl⟩ (by decide) (by decide) dX11_isStake_15

set_option maxHeartbeats 4000000 in
set_option maxRecDepth 100000 in
theorem c_X11_isStake_h (γ : kΓ) (l : Launch) (v : Int32) (h1 : ¬ v < 0) (h2 : 9 < v) : kM γ l yX11_isStake cX11_isStake 1 ((some .boolean)) ({ frames := 0, cells := 0, slots := 0, locals := 0 } : Room) [.int v] [] (fun r w1 => r = some (.int 0) ∧ w1 = []) := by
  refine k_ofW (by decide) (Nat.le_of_ble_eq_true rfl) ?_
  intro p e s m below meth c A ls hC hr hlocks hname hw hl
  have hx := hC.1
  have hb := hC.2.1
  have hl : lv_has ls 1 [(0, .int v)] := hl
  refine lv_iload_n hx hb dX11_isStake_0 rfl (lv_at hl 0 rfl) ?_
  refine lv_if_lt (tgt := 14) hx hb dX11_isStake_1 (by decide) (fun h => absurd h h1) (fun _ => ?_)
  refine lv_iload_n hx hb dX11_isStake_4 rfl (lv_at hl 0 rfl) ?_
  refine lv_bipush (v := 9) hx hb dX11_isStake_5 (by decide) ?_
  refine lv_icmp_gt (tgt := 14) hx hb dX11_isStake_7 (by decide) (fun _ => ?_) (fun h => absurd h2 h)
  refine lv_iconst (v := 0) hx hb dX11_isStake_14 (by decide) ?_
  exact k_zret hC hr hlocks rfl hw [] rfl rfl ⟨rfl, rfl⟩ (by decide) (by decide) dX11_isStake_15


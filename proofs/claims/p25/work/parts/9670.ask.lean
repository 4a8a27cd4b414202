section KMX9
variable {γ : kΓ} {p : Program} {l : Launch} {e : Env} {R : Room} {s : State} {m : MethodId} {args : Array Value} {below : List Frame} {meth : Method} {c : Code} {H : Heap} {locs : List Loc} {cells slots : Nat} {Q : State → Prop}
variable {cc : ByteArray} {nL pc : Nat} {own : String} {A : Nat → Prop} {ls : Array Slot} {rest : List Value}
def F_mx (a b : Int32) : Int32 := if a < b then b else a
theorem k_mmax (hC : kC γ p s m args c cc nL own A) {idx : Nat} (hl : Cond.methodLink own idx Lib.Math.max.name ∈ kG) {a b : Int32} (hml : ls.size = nL) (hf : 1 ≤ R.frames) (hlo : (rest.map fun v => v.category).sum + 13 ≤ R.locals) (hc : cells ≤ R.cells) (hs : slots ≤ R.slots) (hdg : decode cc pc = .ok (.invokestatic idx, 3))
    (kk : W p l e R s m args below meth c H locs cells slots Q (F0 m (pc + 3) ls (.int (F_mx a b) :: rest))) : W p l e R s m args below meth c H locs cells slots Q (F0 m pc ls (.int b :: .int a :: rest)) :=
  va_mmax hC.1 hC.2.1 (hC.2.2.1.trans hml.symm) hC.2.2.2.1 (hC.2.2.2.2.1 _ hl) (hC.2.2.2.2.1 _ gw_mxs) (hC.2.2.2.2.1 _ gw_mmi) (hC.2.2.2.2.1 _ gw_mxc) hf hlo hc hs hdg kk
end KMX9
/-! ask: what it is -/
def F_ush (x y : Int32) : Int32 := (x.toUInt32 >>> (y.toUInt32 &&& Int32.toUInt32 31)).toInt32
def bc1 (x : Int32) : Int32 := x - (F_ush x 1 &&& 1431655765)
def bc2 (x : Int32) : Int32 := (bc1 x &&& 858993459) + (F_ush (bc1 x) 2 &&& 858993459)
def bc3 (x : Int32) : Int32 := (bc2 x + F_ush (bc2 x) 4) &&& 252645135
def bc4 (x : Int32) : Int32 := bc3 x + F_ush (bc3 x) 8
def bc5 (x : Int32) : Int32 := bc4 x + F_ush (bc4 x) 16
def F_bc (x : Int32) : Int32 := bc5 x &&& 63
def biF (x : Int32) : Nat → Int32
  | 0 => 0
  | k + 1 => biF x k + ((x >>> (nI k &&& 31)) &&& 1)
theorem bc_bi : ∀ k, k < 256 → F_bc (nI k) = biF (nI k) 8 := by decide +kernel
theorem or_bit : ∀ k, k < 8 → ∀ b, b < 256 → b < 2 ^ k → nI b ||| (1 <<< (nI k &&& 31)) = nI (b + 2 ^ k) := by decide +kernel
theorem tb_add : ∀ k, k < 8 → ∀ b, b < 256 → b < 2 ^ k → ∀ u, u < 8 → Nat.testBit (b + 2 ^ k) u = (Nat.testBit b u || u == k) := by decide +kernel
theorem bit8 : ∀ k, k < 256 → ∀ u, u < 8 → (nI k >>> (nI u &&& 31)) &&& 1 = if Nat.testBit k u = true then 1 else 0 := by decide +kernel
theorem nI_and {a b : Nat} (ha : a < 256) (hb : b < 256) : nI a &&& nI b = nI (a &&& b) := by
  apply Int32.toBitVec_inj.mp
  apply BitVec.eq_of_toNat_eq
  have h := Nat.lt_of_le_of_lt (Nat.and_le_left (n := a) (m := b)) ha
  show (a % 2 ^ 32) &&& (b % 2 ^ 32) = (a &&& b) % 2 ^ 32
  rw [Nat.mod_eq_of_lt (by omega), Nat.mod_eq_of_lt (by omega), Nat.mod_eq_of_lt (by omega)]
theorem nI_g8 {i : Nat} (h : i < 2 ^ 31) : 8 ≤ nI i ↔ 8 ≤ i := by
  rw [Int32.le_iff_toInt_le, nI_toInt h, show (8 : Int32).toInt = 8 from by decide]
  omega
/-- which thoughts th follows -/
def beF (af : Nat → Int32) (th : Int32) : Nat → Int32
  | 0 => 0
  | k + 1 => if F_isIn (af k) th = 0 then beF af th k else beF af th k ||| (1 <<< (nI k &&& 31))
theorem beF_s {af : Nat → Int32} {th : Int32} {k : Nat} : beF af th (k + 1) = if F_isIn (af k) th = 0 then beF af th k else beF af th k ||| (1 <<< (nI k &&& 31)) := rfl
theorem beF_p {af : Nat → Int32} {th : Int32} {k : Nat} (h : F_isIn (af k) th = 0) : beF af th k = beF af th (k + 1) := (if_pos h).symm
theorem beF_n {af : Nat → Int32} {th : Int32} {k : Nat} (h : ¬ F_isIn (af k) th = 0) : beF af th k ||| (1 <<< (nI k &&& 31)) = beF af th (k + 1) := (if_neg h).symm
theorem beF_same {af bf : Nat → Int32} {th : Int32} : ∀ T, (∀ i, i < T → af i = bf i) → beF af th T = beF bf th T
  | 0, _ => rfl
  | k + 1, h => by rw [beF_s, beF_s, h k (by omega), beF_same k (fun i hi => h i (by omega))]
/-- the model's number: how many of those that fit come before th -/
def anF (st : Int32) (bh : Nat → Int32) (th : Int32) : Nat → Int32
  | 0 => 0
  | u + 1 => anF st bh th u + (if (st >>> (nI u &&& 31)) &&& 1 = 1 then (if (bh u >>> (th &&& 31)) &&& 1 = 1 then 1 else 0) else 0)
theorem anF_s {st : Int32} {bh : Nat → Int32} {th : Int32} {u : Nat} : anF st bh th (u + 1) = anF st bh th u + (if (st >>> (nI u &&& 31)) &&& 1 = 1 then (if (bh u >>> (th &&& 31)) &&& 1 = 1 then 1 else 0) else 0) := rfl
theorem anF_0 {st : Int32} {bh : Nat → Int32} {th : Int32} {u : Nat} (h : ¬ (st >>> (nI u &&& 31)) &&& 1 = 1) : anF st bh th u + 0 = anF st bh th (u + 1) := by rw [anF_s, if_neg h]
theorem anF_10 {st : Int32} {bh : Nat → Int32} {th : Int32} {u : Nat} (h : (st >>> (nI u &&& 31)) &&& 1 = 1) (g : ¬ (bh u >>> (th &&& 31)) &&& 1 = 1) : anF st bh th u + 0 = anF st bh th (u + 1) := by rw [anF_s, if_pos h, if_neg g]
theorem anF_11 {st : Int32} {bh : Nat → Int32} {th : Int32} {u : Nat} (h : (st >>> (nI u &&& 31)) &&& 1 = 1) (g : (bh u >>> (th &&& 31)) &&& 1 = 1) : anF st bh th u + 1 = anF st bh th (u + 1) := by rw [anF_s, if_pos h, if_pos g]
theorem anF_same {st : Int32} {bh ch : Nat → Int32} {th : Int32} : ∀ T, (∀ i, i < T → bh i = ch i) → anF st bh th T = anF st ch th T
  | 0, _ => rfl
  | k + 1, h => by rw [anF_s, anF_s, h k (by omega), anF_same k (fun i hi => h i (by omega))]
/-- the least, and what is asked -/
def lsP (all : Int32) (y : Nat → Int32) : Nat → Int32 × Int32
  | 0 => (all, -1)
  | k + 1 => if F_mx (y k) (all - y k) < (lsP all y k).1 then (F_mx (y k) (all - y k), nI k) else lsP all y k
def lsL (all : Int32) (y : Nat → Int32) (k : Nat) : Int32 := (lsP all y k).1
def lsA (all : Int32) (y : Nat → Int32) (k : Nat) : Int32 := (lsP all y k).2
theorem lsP_s {all : Int32} {y : Nat → Int32} {k : Nat} : lsP all y (k + 1) = if F_mx (y k) (all - y k) < (lsP all y k).1 then (F_mx (y k) (all - y k), nI k) else lsP all y k := rfl
theorem lsP_y {all : Int32} {y : Nat → Int32} {k : Nat} (h : F_mx (y k) (all - y k) < (lsP all y k).1) : lsP all y (k + 1) = (F_mx (y k) (all - y k), nI k) := if_pos h
theorem lsP_n {all : Int32} {y : Nat → Int32} {k : Nat} (h : ¬ F_mx (y k) (all - y k) < (lsP all y k).1) : lsP all y (k + 1) = lsP all y k := if_neg h
theorem lsL_y {all : Int32} {y : Nat → Int32} {k : Nat} (h : F_mx (y k) (all - y k) < lsL all y k) : lsL all y (k + 1) = F_mx (y k) (all - y k) := by
  unfold lsL; rw [lsP_y h]
theorem lsA_y {all : Int32} {y : Nat → Int32} {k : Nat} (h : F_mx (y k) (all - y k) < lsL all y k) : lsA all y (k + 1) = nI k := by
  unfold lsA; rw [lsP_y h]
theorem lsL_n {all : Int32} {y : Nat → Int32} {k : Nat} (h : ¬ F_mx (y k) (all - y k) < lsL all y k) : lsL all y k = lsL all y (k + 1) := by
  unfold lsL; rw [lsP_n h]
theorem lsA_n {all : Int32} {y : Nat → Int32} {k : Nat} (h : ¬ F_mx (y k) (all - y k) < lsL all y k) : lsA all y k = lsA all y (k + 1) := by
  unfold lsA; rw [lsP_n h]
theorem lsP_same {all : Int32} {y z : Nat → Int32} : ∀ T, (∀ i, i < T → y i = z i) → lsP all y T = lsP all z T
  | 0, _ => rfl
  | k + 1, h => by rw [lsP_s, lsP_s, h k (by omega), lsP_same k (fun i hi => h i (by omega))]
theorem lsA_same {all : Int32} {y z : Nat → Int32} {T : Nat} (h : ∀ i, i < T → y i = z i) : lsA all y T = lsA all z T := by
  unfold lsA; rw [lsP_same T h]
def ycF (af e : Nat → Int32) (G T k : Nat) : Int32 := F_bc (fiF af e G T &&& beF af (nI k) T)
def ymF (bh o m : Nat → Int32) (G T k : Nat) : Int32 := anF (miF bh o m G T) bh (nI k) T
def asC (af e : Nat → Int32) (G T : Nat) : Int32 := lsA (F_bc (fiF af e G T)) (ycF af e G T) T
def asM (bh o m : Nat → Int32) (G T : Nat) : Int32 := lsA (biF (miF bh o m G T) 8) (ymF bh o m G T) T
theorem asC_same {af bf e f : Nat → Int32} {G : Nat} (he : ∀ i, i < G → e i = f i) (T : Nat) (h : ∀ i, i < T → af i = bf i) : asC af e G T = asC bf f G T := by
  unfold asC
  rw [fiF_same he T h]
  refine lsA_same (fun i hi => ?_)
  unfold ycF
  rw [fiF_same he T h, beF_same T h]
theorem asM_same {af bf o m o' m' : Nat → Int32} {G : Nat} (hg : ∀ i, i < G → o i = o' i ∧ m i = m' i) (T : Nat) (h : ∀ i, i < T → af i = bf i) : asM af o m G T = asM bf o' m' G T := by
  unfold asM
  rw [miF_same hg T h]
  refine lsA_same (fun i hi => ?_)
  unfold ymF
  rw [miF_same hg T h, anF_same T h]
theorem fiF_b {af e : Nat → Int32} {G : Nat} : ∀ T, T ≤ 8 → ∃ s, s < 256 ∧ s < 2 ^ T ∧ fiF af e G T = nI s
  | 0, _ => ⟨0, by decide, by decide, rfl⟩
  | k + 1, hk => by
    obtain ⟨s, s1, s2, s3⟩ := fiF_b (af := af) (e := e) (G := G) k (by omega)
    have hp : 2 ^ (k + 1) = 2 ^ k * 2 := Nat.pow_succ ..
    have hq : 2 ^ (k + 1) ≤ 2 ^ 8 := Nat.pow_le_pow_right (by decide) hk
    by_cases h : alF (af k) e G = 0
    · exact ⟨s, s1, by omega, by rw [← fiF_p h, s3]⟩
    · exact ⟨s + 2 ^ k, by omega, by omega, by rw [← fiF_n h, s3, or_bit k (by omega) s s1 s2]⟩
theorem beF_b {af : Nat → Int32} {th : Int32} : ∀ T, T ≤ 8 → ∃ b, b < 256 ∧ b < 2 ^ T ∧ beF af th T = nI b ∧ ∀ u, u < 8 → (Nat.testBit b u = true ↔ u < T ∧ ¬ F_isIn (af u) th = 0)
  | 0, _ => ⟨0, by decide, by decide, rfl, fun u _ => ⟨fun h => absurd (h.symm.trans (Nat.zero_testBit u)) (by decide), fun h => absurd h.1 (Nat.not_lt_zero u)⟩⟩
  | k + 1, hk => by
    obtain ⟨b, b1, b2, b3, b4⟩ := beF_b (af := af) (th := th) k (by omega)
    have hp : 2 ^ (k + 1) = 2 ^ k * 2 := Nat.pow_succ ..
    have hq : 2 ^ (k + 1) ≤ 2 ^ 8 := Nat.pow_le_pow_right (by decide) hk
    by_cases h : F_isIn (af k) th = 0
    · refine ⟨b, b1, by omega, by rw [← beF_p h, b3], fun u hu => (b4 u hu).trans ⟨fun q => ⟨by omega, q.2⟩, fun q => ⟨?_, q.2⟩⟩⟩
      by_cases e9 : u = k
      · subst e9; exact absurd h q.2
      · have := q.1; omega
    · refine ⟨b + 2 ^ k, by omega, by omega, by rw [← beF_n h, b3, or_bit k (by omega) b b1 b2], fun u hu => ?_⟩
      rw [tb_add k (by omega) b b1 b2 u hu, Bool.or_eq_true, b4 u hu, beq_iff_eq]
      constructor
      · rintro (q | rfl)
        · exact ⟨by have := q.1; omega, q.2⟩
        · exact ⟨by omega, h⟩
      · intro q
        by_cases e9 : u = k
        · exact .inr e9
        · exact .inl ⟨by have := q.1; omega, q.2⟩
theorem isIn_iff {x y : Int32} : ¬ F_isIn x y = 0 ↔ (x >>> (y &&& 31)) &&& 1 = 1 := by
  unfold F_isIn
  rcases and1 (x >>> (y &&& 31)) with h | h
  · rw [if_pos h, h]; decide
  · rw [if_neg (by rw [h]; decide), h]; decide
theorem bi_an {s b T : Nat} {af : Nat → Int32} {th : Int32} (hs : s < 256) (hT : T ≤ 8) (h : ∀ u, u < 8 → (Nat.testBit b u = true ↔ u < T ∧ ¬ F_isIn (af u) th = 0)) : ∀ n, n ≤ 8 → biF (nI (s &&& b)) n = anF (nI s) af th (if n ≤ T then n else T)
  | 0, _ => by rw [if_pos (Nat.zero_le T)]; rfl
  | n + 1, hn => by
    have ih := bi_an hs hT h n (by omega)
    have hk : s &&& b < 256 := Nat.lt_of_le_of_lt Nat.and_le_left hs
    show biF (nI (s &&& b)) n + ((nI (s &&& b) >>> (nI n &&& 31)) &&& 1) = _
    rw [ih, bit8 _ hk n (by omega), Nat.testBit_and]
    by_cases hn' : n < T
    · rw [if_pos (show n + 1 ≤ T by omega), if_pos (show n ≤ T by omega), anF_s, bit8 _ hs n (by omega)]
      have hb2 : Nat.testBit b n = true ↔ (af n >>> (th &&& 31)) &&& 1 = 1 := (h n (by omega)).trans ⟨fun q => isIn_iff.mp q.2, fun q => ⟨hn', isIn_iff.mpr q⟩⟩
      by_cases e2 : (af n >>> (th &&& 31)) &&& 1 = 1
      · rw [if_pos e2, hb2.mpr e2, Bool.and_true]
        cases Nat.testBit s n <;> rfl
      · have e3 : Nat.testBit b n = false := by
          rw [← Bool.not_eq_true]
          exact fun q => e2 (hb2.mp q)
        rw [if_neg e2, e3, Bool.and_false, ite_self]
        rfl
    · have e3 : Nat.testBit b n = false := by
        rw [← Bool.not_eq_true]
        exact fun q => hn' ((h n (by omega)).mp q).1
      rw [e3, Bool.and_false, if_neg (show ¬ (false = true) by decide), Int32.add_zero]
      rw [if_neg (show ¬ n + 1 ≤ T by omega)]
      by_cases e4 : n ≤ T
      · rw [if_pos e4, show n = T by omega]
      · rw [if_neg e4]
theorem as_eq {af e o m : Nat → Int32} {G T : Nat} (hT : T ≤ 8) (h : ∀ i, i < G → (∃ t, t < 8 ∧ o i = nI t ∧ e i = nI t * 2 + m i) ∧ (m i = 0 ∨ m i = 1)) : asC af e G T = asM af o m G T := by
  obtain ⟨s, s1, -, s2⟩ := fiF_b (af := af) (e := e) (G := G) T hT
  unfold asC asM
  rw [← fi_mi h T, s2, bc_bi s s1]
  refine lsA_same (fun k _ => ?_)
  unfold ycF ymF
  rw [← fi_mi h T, s2]
  obtain ⟨b, b1, -, b3, b4⟩ := beF_b (af := af) (th := nI k) T hT
  rw [b3, nI_and s1 b1, bc_bi _ (Nat.lt_of_le_of_lt Nat.and_le_left s1), bi_an s1 hT b4 8 (by omega)]
  by_cases e4 : 8 ≤ T
  · rw [if_pos e4, show T = 8 by omega]
  · rw [if_neg e4]
theorem dX0_before_0 : decode cX0_before 0 = .ok (.iconst 0, 1) := by decide +kernel
theorem dX0_before_1 : decode cX0_before 1 = .ok (.istore_n 2, 1) := by decide +kernel
theorem dX0_before_2 : decode cX0_before 2 = .ok (.iconst 0, 1) := by decide +kernel
theorem dX0_before_3 : decode cX0_before 3 = .ok (.istore_n 3, 1) := by decide +kernel
theorem dX0_before_4 : decode cX0_before 4 = .ok (.iload_n 3, 1) := by decide +kernel
theorem dX0_before_5 : decode cX0_before 5 = .ok (.aload_n 0, 1) := by decide +kernel
theorem dX0_before_6 : decode cX0_before 6 = .ok (.getfield 40, 3) := by decide +kernel
theorem dX0_before_9 : decode cX0_before 9 = .ok (.if_icmp .ge 28, 3) := by decide +kernel
theorem dX0_before_12 : decode cX0_before 12 = .ok (.aload_n 0, 1) := by decide +kernel
theorem dX0_before_13 : decode cX0_before 13 = .ok (.getfield 22, 3) := by decide +kernel
theorem dX0_before_16 : decode cX0_before 16 = .ok (.iload_n 3, 1) := by decide +kernel
theorem dX0_before_17 : decode cX0_before 17 = .ok (.iaload, 1) := by decide +kernel
theorem dX0_before_18 : decode cX0_before 18 = .ok (.iload_n 1, 1) := by decide +kernel
theorem dX0_before_19 : decode cX0_before 19 = .ok (.invokestatic 62, 3) := by decide +kernel
theorem dX0_before_22 : decode cX0_before 22 = .ok (.ifCond .eq 9, 3) := by decide +kernel
theorem dX0_before_25 : decode cX0_before 25 = .ok (.iload_n 2, 1) := by decide +kernel
theorem dX0_before_26 : decode cX0_before 26 = .ok (.iconst 1, 1) := by decide +kernel
theorem dX0_before_27 : decode cX0_before 27 = .ok (.iload_n 3, 1) := by decide +kernel
theorem dX0_before_28 : decode cX0_before 28 = .ok (.ishl, 1) := by decide +kernel
theorem dX0_before_29 : decode cX0_before 29 = .ok (.ior, 1) := by decide +kernel
theorem dX0_before_30 : decode cX0_before 30 = .ok (.istore_n 2, 1) := by decide +kernel
theorem dX0_before_31 : decode cX0_before 31 = .ok (.iinc 3 1, 3) := by decide +kernel
theorem dX0_before_34 : decode cX0_before 34 = .ok (.goto (-30), 3) := by decide +kernel
theorem dX0_before_37 : decode cX0_before 37 = .ok (.iload_n 2, 1) := by decide +kernel
theorem dX0_before_38 : decode cX0_before 38 = .ok (.ireturn, 1) := by decide +kernel
theorem dJ6_bitCount_0f7a4_0 : decode cJ6_bitCount_0f7a4 0 = .ok (.iload_n 0, 1) := by decide +kernel
theorem dJ6_bitCount_0f7a4_1 : decode cJ6_bitCount_0f7a4 1 = .ok (.iload_n 0, 1) := by decide +kernel
theorem dJ6_bitCount_0f7a4_2 : decode cJ6_bitCount_0f7a4 2 = .ok (.iconst 1, 1) := by decide +kernel
theorem dJ6_bitCount_0f7a4_3 : decode cJ6_bitCount_0f7a4 3 = .ok (.iushr, 1) := by decide +kernel
theorem dJ6_bitCount_0f7a4_4 : decode cJ6_bitCount_0f7a4 4 = .ok (.ldc_w 265, 3) := by decide +kernel
theorem dJ6_bitCount_0f7a4_7 : decode cJ6_bitCount_0f7a4 7 = .ok (.iand, 1) := by decide +kernel
theorem dJ6_bitCount_0f7a4_8 : decode cJ6_bitCount_0f7a4 8 = .ok (.isub, 1) := by decide +kernel
theorem dJ6_bitCount_0f7a4_9 : decode cJ6_bitCount_0f7a4 9 = .ok (.istore_n 0, 1) := by decide +kernel
theorem dJ6_bitCount_0f7a4_10 : decode cJ6_bitCount_0f7a4 10 = .ok (.iload_n 0, 1) := by decide +kernel
theorem dJ6_bitCount_0f7a4_11 : decode cJ6_bitCount_0f7a4 11 = .ok (.ldc_w 266, 3) := by decide +kernel
theorem dJ6_bitCount_0f7a4_14 : decode cJ6_bitCount_0f7a4 14 = .ok (.iand, 1) := by decide +kernel
theorem dJ6_bitCount_0f7a4_15 : decode cJ6_bitCount_0f7a4 15 = .ok (.iload_n 0, 1) := by decide +kernel
theorem dJ6_bitCount_0f7a4_16 : decode cJ6_bitCount_0f7a4 16 = .ok (.iconst 2, 1) := by decide +kernel
theorem dJ6_bitCount_0f7a4_17 : decode cJ6_bitCount_0f7a4 17 = .ok (.iushr, 1) := by decide +kernel
theorem dJ6_bitCount_0f7a4_18 : decode cJ6_bitCount_0f7a4 18 = .ok (.ldc_w 266, 3) := by decide +kernel
theorem dJ6_bitCount_0f7a4_21 : decode cJ6_bitCount_0f7a4 21 = .ok (.iand, 1) := by decide +kernel
theorem dJ6_bitCount_0f7a4_22 : decode cJ6_bitCount_0f7a4 22 = .ok (.iadd, 1) := by decide +kernel
theorem dJ6_bitCount_0f7a4_23 : decode cJ6_bitCount_0f7a4 23 = .ok (.istore_n 0, 1) := by decide +kernel
theorem dJ6_bitCount_0f7a4_24 : decode cJ6_bitCount_0f7a4 24 = .ok (.iload_n 0, 1) := by decide +kernel
theorem dJ6_bitCount_0f7a4_25 : decode cJ6_bitCount_0f7a4 25 = .ok (.iload_n 0, 1) := by decide +kernel
theorem dJ6_bitCount_0f7a4_26 : decode cJ6_bitCount_0f7a4 26 = .ok (.iconst 4, 1) := by decide +kernel
theorem dJ6_bitCount_0f7a4_27 : decode cJ6_bitCount_0f7a4 27 = .ok (.iushr, 1) := by decide +kernel
theorem dJ6_bitCount_0f7a4_28 : decode cJ6_bitCount_0f7a4 28 = .ok (.iadd, 1) := by decide +kernel
theorem dJ6_bitCount_0f7a4_29 : decode cJ6_bitCount_0f7a4 29 = .ok (.ldc_w 267, 3) := by decide +kernel
theorem dJ6_bitCount_0f7a4_32 : decode cJ6_bitCount_0f7a4 32 = .ok (.iand, 1) := by decide +kernel
theorem dJ6_bitCount_0f7a4_33 : decode cJ6_bitCount_0f7a4 33 = .ok (.istore_n 0, 1) := by decide +kernel
theorem dJ6_bitCount_0f7a4_34 : decode cJ6_bitCount_0f7a4 34 = .ok (.iload_n 0, 1) := by decide +kernel
theorem dJ6_bitCount_0f7a4_35 : decode cJ6_bitCount_0f7a4 35 = .ok (.iload_n 0, 1) := by decide +kernel
theorem dJ6_bitCount_0f7a4_36 : decode cJ6_bitCount_0f7a4 36 = .ok (.bipush 8, 2) := by decide +kernel
theorem dJ6_bitCount_0f7a4_38 : decode cJ6_bitCount_0f7a4 38 = .ok (.iushr, 1) := by decide +kernel
theorem dJ6_bitCount_0f7a4_39 : decode cJ6_bitCount_0f7a4 39 = .ok (.iadd, 1) := by decide +kernel
theorem dJ6_bitCount_0f7a4_40 : decode cJ6_bitCount_0f7a4 40 = .ok (.istore_n 0, 1) := by decide +kernel
theorem dJ6_bitCount_0f7a4_41 : decode cJ6_bitCount_0f7a4 41 = .ok (.iload_n 0, 1) := by decide +kernel
theorem dJ6_bitCount_0f7a4_42 : decode cJ6_bitCount_0f7a4 42 = .ok (.iload_n 0, 1) := by decide +kernel
theorem dJ6_bitCount_0f7a4_43 : decode cJ6_bitCount_0f7a4 43 = .ok (.bipush 16, 2) := by decide +kernel
theorem dJ6_bitCount_0f7a4_45 : decode cJ6_bitCount_0f7a4 45 = .ok (.iushr, 1) := by decide +kernel
theorem dJ6_bitCount_0f7a4_46 : decode cJ6_bitCount_0f7a4 46 = .ok (.iadd, 1) := by decide +kernel
theorem dJ6_bitCount_0f7a4_47 : decode cJ6_bitCount_0f7a4 47 = .ok (.istore_n 0, 1) := by decide +kernel
theorem dJ6_bitCount_0f7a4_48 : decode cJ6_bitCount_0f7a4 48 = .ok (.iload_n 0, 1) := by decide +kernel
theorem dJ6_bitCount_0f7a4_49 : decode cJ6_bitCount_0f7a4 49 = .ok (.bipush 63, 2) := by decide +kernel
theorem dJ6_bitCount_0f7a4_51 : decode cJ6_bitCount_0f7a4 51 = .ok (.iand, 1) := by decide +kernel
theorem dJ6_bitCount_0f7a4_52 : decode cJ6_bitCount_0f7a4 52 = .ok (.ireturn, 1) := by decide +kernel
theorem dX12_bits_0 : decode cX12_bits 0 = .ok (.iconst 0, 1) := by decide +kernel
theorem dX12_bits_1 : decode cX12_bits 1 = .ok (.istore_n 1, 1) := by decide +kernel
theorem dX12_bits_2 : decode cX12_bits 2 = .ok (.iconst 0, 1) := by decide +kernel
theorem dX12_bits_3 : decode cX12_bits 3 = .ok (.istore_n 2, 1) := by decide +kernel
theorem dX12_bits_4 : decode cX12_bits 4 = .ok (.iload_n 2, 1) := by decide +kernel
theorem dX12_bits_5 : decode cX12_bits 5 = .ok (.bipush 8, 2) := by decide +kernel
theorem dX12_bits_7 : decode cX12_bits 7 = .ok (.if_icmp .ge 17, 3) := by decide +kernel
theorem dX12_bits_10 : decode cX12_bits 10 = .ok (.iload_n 1, 1) := by decide +kernel
theorem dX12_bits_11 : decode cX12_bits 11 = .ok (.iload_n 0, 1) := by decide +kernel
theorem dX12_bits_12 : decode cX12_bits 12 = .ok (.iload_n 2, 1) := by decide +kernel
theorem dX12_bits_13 : decode cX12_bits 13 = .ok (.ishr, 1) := by decide +kernel
theorem dX12_bits_14 : decode cX12_bits 14 = .ok (.iconst 1, 1) := by decide +kernel
theorem dX12_bits_15 : decode cX12_bits 15 = .ok (.iand, 1) := by decide +kernel
theorem dX12_bits_16 : decode cX12_bits 16 = .ok (.iadd, 1) := by decide +kernel
theorem dX12_bits_17 : decode cX12_bits 17 = .ok (.istore_n 1, 1) := by decide +kernel
theorem dX12_bits_18 : decode cX12_bits 18 = .ok (.iinc 2 1, 3) := by decide +kernel
theorem dX12_bits_21 : decode cX12_bits 21 = .ok (.goto (-17), 3) := by decide +kernel
theorem dX12_bits_24 : decode cX12_bits 24 = .ok (.iload_n 1, 1) := by decide +kernel
theorem dX12_bits_25 : decode cX12_bits 25 = .ok (.ireturn, 1) := by decide +kernel
theorem dX11_ask_0 : decode cX11_ask 0 = .ok (.aload_n 0, 1) := by decide +kernel
theorem dX11_ask_1 : decode cX11_ask 1 = .ok (.invokevirtual 317, 3) := by decide +kernel
theorem dX11_ask_4 : decode cX11_ask 4 = .ok (.istore_n 1, 1) := by decide +kernel
theorem dX11_ask_5 : decode cX11_ask 5 = .ok (.iload_n 1, 1) := by decide +kernel
theorem dX11_ask_6 : decode cX11_ask 6 = .ok (.invokestatic 277, 3) := by decide +kernel
theorem dX11_ask_9 : decode cX11_ask 9 = .ok (.istore_n 2, 1) := by decide +kernel
theorem dX11_ask_10 : decode cX11_ask 10 = .ok (.iconst (-1), 1) := by decide +kernel
theorem dX11_ask_11 : decode cX11_ask 11 = .ok (.istore_n 3, 1) := by decide +kernel
theorem dX11_ask_12 : decode cX11_ask 12 = .ok (.iload_n 2, 1) := by decide +kernel
theorem dX11_ask_13 : decode cX11_ask 13 = .ok (.istore 4, 2) := by decide +kernel
theorem dX11_ask_15 : decode cX11_ask 15 = .ok (.iconst 0, 1) := by decide +kernel
theorem dX11_ask_16 : decode cX11_ask 16 = .ok (.istore 5, 2) := by decide +kernel
theorem dX11_ask_18 : decode cX11_ask 18 = .ok (.iload 5, 2) := by decide +kernel
theorem dX11_ask_20 : decode cX11_ask 20 = .ok (.aload_n 0, 1) := by decide +kernel
theorem dX11_ask_21 : decode cX11_ask 21 = .ok (.getfield 65, 3) := by decide +kernel
theorem dX11_ask_24 : decode cX11_ask 24 = .ok (.getfield 108, 3) := by decide +kernel
theorem dX11_ask_27 : decode cX11_ask 27 = .ok (.if_icmp .ge 50, 3) := by decide +kernel
theorem dX11_ask_30 : decode cX11_ask 30 = .ok (.iload_n 1, 1) := by decide +kernel
theorem dX11_ask_31 : decode cX11_ask 31 = .ok (.aload_n 0, 1) := by decide +kernel
theorem dX11_ask_32 : decode cX11_ask 32 = .ok (.getfield 65, 3) := by decide +kernel
theorem dX11_ask_35 : decode cX11_ask 35 = .ok (.iload 5, 2) := by decide +kernel
theorem dX11_ask_37 : decode cX11_ask 37 = .ok (.invokevirtual 320, 3) := by decide +kernel
theorem dX11_ask_40 : decode cX11_ask 40 = .ok (.iand, 1) := by decide +kernel
theorem dX11_ask_41 : decode cX11_ask 41 = .ok (.invokestatic 277, 3) := by decide +kernel
theorem dX11_ask_44 : decode cX11_ask 44 = .ok (.istore 6, 2) := by decide +kernel
theorem dX11_ask_46 : decode cX11_ask 46 = .ok (.iload 6, 2) := by decide +kernel
theorem dX11_ask_48 : decode cX11_ask 48 = .ok (.iload_n 2, 1) := by decide +kernel
theorem dX11_ask_49 : decode cX11_ask 49 = .ok (.iload 6, 2) := by decide +kernel
theorem dX11_ask_51 : decode cX11_ask 51 = .ok (.isub, 1) := by decide +kernel
theorem dX11_ask_52 : decode cX11_ask 52 = .ok (.invokestatic 323, 3) := by decide +kernel
theorem dX11_ask_55 : decode cX11_ask 55 = .ok (.istore 7, 2) := by decide +kernel
theorem dX11_ask_57 : decode cX11_ask 57 = .ok (.iload 7, 2) := by decide +kernel
theorem dX11_ask_59 : decode cX11_ask 59 = .ok (.iload 4, 2) := by decide +kernel
theorem dX11_ask_61 : decode cX11_ask 61 = .ok (.if_icmp .ge 10, 3) := by decide +kernel
theorem dX11_ask_64 : decode cX11_ask 64 = .ok (.iload 7, 2) := by decide +kernel
theorem dX11_ask_66 : decode cX11_ask 66 = .ok (.istore 4, 2) := by decide +kernel
theorem dX11_ask_68 : decode cX11_ask 68 = .ok (.iload 5, 2) := by decide +kernel
theorem dX11_ask_70 : decode cX11_ask 70 = .ok (.istore_n 3, 1) := by decide +kernel
theorem dX11_ask_71 : decode cX11_ask 71 = .ok (.iinc 5 1, 3) := by decide +kernel
theorem dX11_ask_74 : decode cX11_ask 74 = .ok (.goto (-56), 3) := by decide +kernel
theorem dX11_ask_77 : decode cX11_ask 77 = .ok (.iload_n 3, 1) := by decide +kernel
theorem dX11_ask_78 : decode cX11_ask 78 = .ok (.ireturn, 1) := by decide +kernel
theorem dX12_ask_0 : decode cX12_ask 0 = .ok (.aload_n 0, 1) := by decide +kernel
theorem dX12_ask_1 : decode cX12_ask 1 = .ok (.iconst 0, 1) := by decide +kernel
theorem dX12_ask_2 : decode cX12_ask 2 = .ok (.putfield 143, 3) := by decide +kernel
theorem dX12_ask_5 : decode cX12_ask 5 = .ok (.aload_n 0, 1) := by decide +kernel
theorem dX12_ask_6 : decode cX12_ask 6 = .ok (.invokevirtual 471, 3) := by decide +kernel
theorem dX12_ask_9 : decode cX12_ask 9 = .ok (.istore_n 1, 1) := by decide +kernel
theorem dX12_ask_10 : decode cX12_ask 10 = .ok (.iload_n 1, 1) := by decide +kernel
theorem dX12_ask_11 : decode cX12_ask 11 = .ok (.invokestatic 446, 3) := by decide +kernel
theorem dX12_ask_14 : decode cX12_ask 14 = .ok (.istore_n 2, 1) := by decide +kernel
theorem dX12_ask_15 : decode cX12_ask 15 = .ok (.iconst (-1), 1) := by decide +kernel
theorem dX12_ask_16 : decode cX12_ask 16 = .ok (.istore_n 3, 1) := by decide +kernel
theorem dX12_ask_17 : decode cX12_ask 17 = .ok (.iconst 0, 1) := by decide +kernel
theorem dX12_ask_18 : decode cX12_ask 18 = .ok (.istore 4, 2) := by decide +kernel
theorem dX12_ask_20 : decode cX12_ask 20 = .ok (.iload 4, 2) := by decide +kernel
theorem dX12_ask_22 : decode cX12_ask 22 = .ok (.aload_n 0, 1) := by decide +kernel
theorem dX12_ask_23 : decode cX12_ask 23 = .ok (.getfield 13, 3) := by decide +kernel
theorem dX12_ask_26 : decode cX12_ask 26 = .ok (.iconst 0, 1) := by decide +kernel
theorem dX12_ask_27 : decode cX12_ask 27 = .ok (.iaload, 1) := by decide +kernel
theorem dX12_ask_28 : decode cX12_ask 28 = .ok (.if_icmp .ge 97, 3) := by decide +kernel
theorem dX12_ask_31 : decode cX12_ask 31 = .ok (.iconst 0, 1) := by decide +kernel
theorem dX12_ask_32 : decode cX12_ask 32 = .ok (.istore 5, 2) := by decide +kernel
theorem dX12_ask_34 : decode cX12_ask 34 = .ok (.iconst 0, 1) := by decide +kernel
theorem dX12_ask_35 : decode cX12_ask 35 = .ok (.istore 6, 2) := by decide +kernel
theorem dX12_ask_37 : decode cX12_ask 37 = .ok (.iload 6, 2) := by decide +kernel
theorem dX12_ask_39 : decode cX12_ask 39 = .ok (.aload_n 0, 1) := by decide +kernel
theorem dX12_ask_40 : decode cX12_ask 40 = .ok (.getfield 13, 3) := by decide +kernel
theorem dX12_ask_43 : decode cX12_ask 43 = .ok (.iconst 0, 1) := by decide +kernel
theorem dX12_ask_44 : decode cX12_ask 44 = .ok (.iaload, 1) := by decide +kernel
theorem dX12_ask_45 : decode cX12_ask 45 = .ok (.if_icmp .ge 45, 3) := by decide +kernel
theorem dX12_ask_48 : decode cX12_ask 48 = .ok (.iload 5, 2) := by decide +kernel
theorem dX12_ask_50 : decode cX12_ask 50 = .ok (.iload_n 1, 1) := by decide +kernel
theorem dX12_ask_51 : decode cX12_ask 51 = .ok (.iload 6, 2) := by decide +kernel
theorem dX12_ask_53 : decode cX12_ask 53 = .ok (.ishr, 1) := by decide +kernel
theorem dX12_ask_54 : decode cX12_ask 54 = .ok (.iconst 1, 1) := by decide +kernel
theorem dX12_ask_55 : decode cX12_ask 55 = .ok (.iand, 1) := by decide +kernel
theorem dX12_ask_56 : decode cX12_ask 56 = .ok (.iconst 1, 1) := by decide +kernel
theorem dX12_ask_57 : decode cX12_ask 57 = .ok (.if_icmp .ne 23, 3) := by decide +kernel
theorem dX12_ask_60 : decode cX12_ask 60 = .ok (.aload_n 0, 1) := by decide +kernel
theorem dX12_ask_61 : decode cX12_ask 61 = .ok (.getfield 29, 3) := by decide +kernel
theorem dX12_ask_64 : decode cX12_ask 64 = .ok (.iload 6, 2) := by decide +kernel
theorem dX12_ask_66 : decode cX12_ask 66 = .ok (.iaload, 1) := by decide +kernel
theorem dX12_ask_67 : decode cX12_ask 67 = .ok (.iload 4, 2) := by decide +kernel
theorem dX12_ask_69 : decode cX12_ask 69 = .ok (.ishr, 1) := by decide +kernel
theorem dX12_ask_70 : decode cX12_ask 70 = .ok (.iconst 1, 1) := by decide +kernel
theorem dX12_ask_71 : decode cX12_ask 71 = .ok (.iand, 1) := by decide +kernel
theorem dX12_ask_72 : decode cX12_ask 72 = .ok (.iconst 1, 1) := by decide +kernel
theorem dX12_ask_73 : decode cX12_ask 73 = .ok (.if_icmp .ne 7, 3) := by decide +kernel
theorem dX12_ask_76 : decode cX12_ask 76 = .ok (.iconst 1, 1) := by decide +kernel
theorem dX12_ask_77 : decode cX12_ask 77 = .ok (.goto 4, 3) := by decide +kernel
theorem dX12_ask_80 : decode cX12_ask 80 = .ok (.iconst 0, 1) := by decide +kernel
theorem dX12_ask_81 : decode cX12_ask 81 = .ok (.iadd, 1) := by decide +kernel
theorem dX12_ask_82 : decode cX12_ask 82 = .ok (.istore 5, 2) := by decide +kernel
theorem dX12_ask_84 : decode cX12_ask 84 = .ok (.iinc 6 1, 3) := by decide +kernel
theorem dX12_ask_87 : decode cX12_ask 87 = .ok (.goto (-50), 3) := by decide +kernel
theorem dX12_ask_90 : decode cX12_ask 90 = .ok (.iload 5, 2) := by decide +kernel
theorem dX12_ask_92 : decode cX12_ask 92 = .ok (.iload_n 1, 1) := by decide +kernel
theorem dX12_ask_93 : decode cX12_ask 93 = .ok (.invokestatic 446, 3) := by decide +kernel
theorem dX12_ask_96 : decode cX12_ask 96 = .ok (.iload 5, 2) := by decide +kernel
theorem dX12_ask_98 : decode cX12_ask 98 = .ok (.isub, 1) := by decide +kernel
theorem dX12_ask_99 : decode cX12_ask 99 = .ok (.invokestatic 379, 3) := by decide +kernel
theorem dX12_ask_102 : decode cX12_ask 102 = .ok (.istore 5, 2) := by decide +kernel
theorem dX12_ask_104 : decode cX12_ask 104 = .ok (.iload 5, 2) := by decide +kernel
theorem dX12_ask_106 : decode cX12_ask 106 = .ok (.iload_n 2, 1) := by decide +kernel
theorem dX12_ask_107 : decode cX12_ask 107 = .ok (.if_icmp .lt 6, 3) := by decide +kernel
theorem dX12_ask_110 : decode cX12_ask 110 = .ok (.goto 9, 3) := by decide +kernel
theorem dX12_ask_113 : decode cX12_ask 113 = .ok (.iload 5, 2) := by decide +kernel
theorem dX12_ask_115 : decode cX12_ask 115 = .ok (.istore_n 2, 1) := by decide +kernel
theorem dX12_ask_116 : decode cX12_ask 116 = .ok (.iload 4, 2) := by decide +kernel
theorem dX12_ask_118 : decode cX12_ask 118 = .ok (.istore_n 3, 1) := by decide +kernel
theorem dX12_ask_119 : decode cX12_ask 119 = .ok (.iinc 4 1, 3) := by decide +kernel
theorem dX12_ask_122 : decode cX12_ask 122 = .ok (.goto (-102), 3) := by decide +kernel
theorem dX12_ask_125 : decode cX12_ask 125 = .ok (.iload_n 3, 1) := by decide +kernel
theorem dX12_ask_126 : decode cX12_ask 126 = .ok (.ireturn, 1) := by decide +kernel
set_option maxHeartbeats 4000000 in
set_option maxRecDepth 100000 in
theorem lp_X0_before {γ : kΓ} {l : Launch} {p9 : Program} {e : Env} {s : State} {m : MethodId} {below : List Frame} {meth : Method} {c : Code} {A : Nat → Prop} (h : Nat) (a0 : Nat) (a1 : Nat) (a2 : Nat) (a3 : Nat) (a4 : Nat) (a5 : Nat) (a6 : Nat) (a7 : Nat) (T : Nat) (t9 : Int32) (t10 : Int32) (t11 : Int32) (t12 : Int32) (t13 : Int32) (t14 : Int32) (t15 : Int32) (t16 : Int32) (t17 : Int32) (t18 : Int32) (af : Nat → Int32) (th : Int32) (hT : T ≤ 8) (hC : kC γ p9 s m [.ref h, .int th].toArray c cX0_before 4 RX0 A) (hr : meth.sig.returnType = (some .int)) (hlocks : meth.locks = false) : ∀ (k : Nat) (i : Nat), T - i < k → (i ≤ T) → ∀ (H : Heap) (locs : List Loc), kW γ A [(h, .inr (0, [.ref a0, .ref a1, .ref a2, .ref a3, .ref a4, .ref a5, .ref a6, .ref a7, .int (nI T), .int t9, .int t10, .int t11, .int t12, .int t13, .int t14, .int t15, .int t16, .int t17, .int t18])), (a3, .inl (γ.2.1 0, 8, .inl af))] s H locs → ∀ ls : Array Slot, lv_has ls 4 [(3, .int (nI i)), (2, .int (beF af th i)), (0, .ref h), (1, .int th)] → W p9 l e ({ frames := 1, cells := 0, slots := 0, locals := 21 } : Room) s m [.ref h, .int th].toArray below meth c H locs 0 0 (MQ below (kQ γ A (fun r w1 => r = some (.int (beF af th T)) ∧ w1 = [(h, .inr (0, [.ref a0, .ref a1, .ref a2, .ref a3, .ref a4, .ref a5, .ref a6, .ref a7, .int (nI T), .int t9, .int t10, .int t11, .int t12, .int t13, .int t14, .int t15, .int t16, .int t17, .int t18])), (a3, .inl (γ.2.1 0, 8, .inl af))])) [.ref h, .int th].toArray s 0 0 A) (F0 m 4 ls []) := by
  have hx := hC.1
  have hb := hC.2.1
  intro k
  induction k with
  | zero => intro i hk; exact absurd hk (Nat.not_lt_zero _)
  | succ k ih =>
    intro i hk hi H locs hw ls hl
    refine lv_iload_n hx hb dX0_before_4 rfl (lv_at hl 0 rfl) ?_
    refine lv_aload_n hx hb dX0_before_5 rfl (lv_at hl 2 rfl) ?_
    refine fg_RX0_40 hC hw 0 rfl rfl dX0_before_6 ?_
    refine lv_icmp_ge (tgt := 37) hx hb dX0_before_9 (by decide) (fun c1 => ?_) (fun c1 => ?_)
    · have hi9 : i = T := by have h9 := (nI_leI (a := T) (b := i) (by omega) (by omega)).mp c1; omega
      rw [hi9] at hl
      refine lv_iload_n hx hb dX0_before_37 rfl (lv_at hl 1 rfl) ?_
      exact k_iret hC hr hlocks hw [0, 1] rfl rfl ⟨rfl, rfl⟩ (by decide) (by decide) dX0_before_38
    · have hi9 : i < T := by rcases Nat.lt_or_ge i T with h9 | h9; exact h9; exact absurd (nI_le h9 (by omega)) c1
      refine lv_aload_n hx hb dX0_before_12 rfl (lv_at hl 2 rfl) ?_
      refine fg_RX0_22 hC hw 0 rfl rfl dX0_before_13 ?_
      refine lv_iload_n hx hb dX0_before_16 rfl (lv_at hl 0 rfl) ?_
      refine k_iald hC hw 1 rfl (vp_in_nI (by omega) (by decide)) dX0_before_17 ?_
      refine lv_topi (fun x_68 ex_68 => ?_)
      obtain rfl : x_68 = af i := (show x_68 = af (nI i : Int32).toNatClampNeg from ex_68).trans (by rw [nI_clamp (by omega)])
      refine lv_iload_n hx hb dX0_before_18 rfl (lv_at hl 3 rfl) ?_
      refine k_SN (wr := [(h, .inr (0, [.ref a0, .ref a1, .ref a2, .ref a3, .ref a4, .ref a5, .ref a6, .ref a7, .int (nI T), .int t9, .int t10, .int t11, .int t12, .int t13, .int t14, .int t15, .int t16, .int t17, .int t18])), (a3, .inl (γ.2.1 0, 8, .inl af))]) 2 nw_555 gw_556 gw_1 gw_557 hd_X11_isIn hC hw (c_isIn γ l (af i) th) ⟨by decide, by decide⟩ ⟨by decide, by decide⟩ hl.1 rfl rfl (Nat.le_of_ble_eq_true rfl) [] [0, 1] rfl rfl rfl rfl (by decide) dX0_before_19 (fun r w1 H locs hq hw => ?_)
      obtain ⟨rfl, rfl⟩ := hq
      have hw : kW γ A [(h, .inr (0, [.ref a0, .ref a1, .ref a2, .ref a3, .ref a4, .ref a5, .ref a6, .ref a7, .int (nI T), .int t9, .int t10, .int t11, .int t12, .int t13, .int t14, .int t15, .int t16, .int t17, .int t18])), (a3, .inl (γ.2.1 0, 8, .inl af))] s H locs := hw
      refine W.eq (g2 := F0 m 22 ls [.int (F_isIn (af i) th)]) rfl ?_
      refine lv_if_eq (tgt := 31) hx hb dX0_before_22 (by decide) (fun c2 => ?_) (fun c2 => ?_)
      · rw [beF_p c2] at hl
        refine lv_iinc (v := (nI (i + 1))) (lv' := [(3, .int (nI (i + 1))), (2, .int (beF af th (i + 1))), (0, .ref h), (1, .int th)]) hx hb dX0_before_31 hl (k := 0) rfl (nI_1 i) (by decide) rfl (fun ls hl => ?_)
        refine lv_goto (tgt := 4) hx hb dX0_before_34 (by decide) ?_
        exact ih (i + 1) (by omega) (by omega) _ _ (kW.sub hw [0, 1] rfl rfl) _ (lv_sub hl [0, 1, 2, 3] rfl)
      · refine lv_iload_n hx hb dX0_before_25 rfl (lv_at hl 1 rfl) ?_
        refine lv_iconst (v := 1) hx hb dX0_before_26 (by decide) ?_
        refine lv_iload_n hx hb dX0_before_27 rfl (lv_at hl 0 rfl) ?_
        refine lv_ishl hx hb dX0_before_28 ?_
        refine lv_ior hx hb dX0_before_29 ?_
        refine lv_topi (fun x_69 ex_69 => ?_)
        obtain rfl : x_69 = (beF af th (i + 1)) := ex_69.trans (beF_n c2)
        refine lv_istore_n (lv' := [(2, .int (beF af th (i + 1))), (3, .int (nI i)), (0, .ref h), (1, .int th)]) hx hb dX0_before_30 rfl hl (by decide) rfl (fun ls hl => ?_)
        refine lv_iinc (v := (nI (i + 1))) (lv' := [(3, .int (nI (i + 1))), (2, .int (beF af th (i + 1))), (0, .ref h), (1, .int th)]) hx hb dX0_before_31 hl (k := 1) rfl (nI_1 i) (by decide) rfl (fun ls hl => ?_)
        refine lv_goto (tgt := 4) hx hb dX0_before_34 (by decide) ?_
        exact ih (i + 1) (by omega) (by omega) _ _ (kW.sub hw [0, 1] rfl rfl) _ (lv_sub hl [0, 1, 2, 3] rfl)

set_option maxHeartbeats 4000000 in
set_option maxRecDepth 100000 in
theorem c_X0_before (γ : kΓ) (l : Launch) (h : Nat) (a0 : Nat) (a1 : Nat) (a2 : Nat) (a3 : Nat) (a4 : Nat) (a5 : Nat) (a6 : Nat) (a7 : Nat) (T : Nat) (t9 : Int32) (t10 : Int32) (t11 : Int32) (t12 : Int32) (t13 : Int32) (t14 : Int32) (t15 : Int32) (t16 : Int32) (t17 : Int32) (t18 : Int32) (af : Nat → Int32) (th : Int32) (hT : T ≤ 8) : kM γ l yX0_before cX0_before 4 ((some .int)) ({ frames := 1, cells := 0, slots := 0, locals := 21 } : Room) [.ref h, .int th] [(h, .inr (0, [.ref a0, .ref a1, .ref a2, .ref a3, .ref a4, .ref a5, .ref a6, .ref a7, .int (nI T), .int t9, .int t10, .int t11, .int t12, .int t13, .int t14, .int t15, .int t16, .int t17, .int t18])), (a3, .inl (γ.2.1 0, 8, .inl af))] (fun r w1 => r = some (.int (beF af th T)) ∧ w1 = [(h, .inr (0, [.ref a0, .ref a1, .ref a2, .ref a3, .ref a4, .ref a5, .ref a6, .ref a7, .int (nI T), .int t9, .int t10, .int t11, .int t12, .int t13, .int t14, .int t15, .int t16, .int t17, .int t18])), (a3, .inl (γ.2.1 0, 8, .inl af))]) := by
  refine k_ofW (by decide) (Nat.le_of_ble_eq_true rfl) ?_
  intro p9 e s m below meth c A ls hC hr hlocks hname hw hl
  have hx := hC.1
  have hb := hC.2.1
  have hl : lv_has ls 4 [(0, .ref h), (1, .int th)] := hl
  refine lv_iconst (v := 0) hx hb dX0_before_0 (by decide) ?_
  refine lv_istore_n (lv' := [(2, .int 0), (0, .ref h), (1, .int th)]) hx hb dX0_before_1 rfl hl (by decide) rfl (fun ls hl => ?_)
  refine lv_iconst (v := 0) hx hb dX0_before_2 (by decide) ?_
  refine lv_istore_n (lv' := [(3, .int 0), (2, .int 0), (0, .ref h), (1, .int th)]) hx hb dX0_before_3 rfl hl (by decide) rfl (fun ls hl => ?_)
  exact lp_X0_before h a0 a1 a2 a3 a4 a5 a6 a7 T t9 t10 t11 t12 t13 t14 t15 t16 t17 t18 af th hT hC hr hlocks (T + 1) 0 (by omega) (Nat.zero_le T) _ _ hw _ (lv_sub hl [0, 1, 2, 3] rfl)

set_option maxHeartbeats 4000000 in
set_option maxRecDepth 100000 in
theorem c_bc (γ : kΓ) (l : Launch) (a : Int32) : kM γ l yJ6_bitCount_0f7a4 cJ6_bitCount_0f7a4 1 ((some .int)) ({ frames := 0, cells := 0, slots := 0, locals := 0 } : Room) [.int a] [] (fun r w1 => r = some (.int (F_bc a)) ∧ w1 = []) := by
  refine k_ofW (by decide) (Nat.le_of_ble_eq_true rfl) ?_
  intro p9 e s m below meth c A ls hC hr hlocks hname hw hl
  have hx := hC.1
  have hb := hC.2.1
  have hl : lv_has ls 1 [(0, .int a)] := hl
  refine lv_iload_n hx hb dJ6_bitCount_0f7a4_0 rfl (lv_at hl 0 rfl) ?_
  refine lv_iload_n hx hb dJ6_bitCount_0f7a4_1 rfl (lv_at hl 0 rfl) ?_
  refine lv_iconst (v := 1) hx hb dJ6_bitCount_0f7a4_2 (by decide) ?_
  refine lv_iushr (v := (F_ush a 1)) hx hb dJ6_bitCount_0f7a4_3 rfl ?_
  refine k_ldcw hC gw_915 dJ6_bitCount_0f7a4_4 ?_
  refine lv_iand hx hb dJ6_bitCount_0f7a4_7 ?_
  refine lv_isub hx hb dJ6_bitCount_0f7a4_8 ?_
  refine lv_topi (fun x_70 ex_70 => ?_)
  obtain rfl : x_70 = (bc1 a) := ex_70.trans rfl
  refine lv_istore_n (lv' := [(0, .int (bc1 a))]) hx hb dJ6_bitCount_0f7a4_9 rfl hl (by decide) rfl (fun ls hl => ?_)
  refine lv_iload_n hx hb dJ6_bitCount_0f7a4_10 rfl (lv_at hl 0 rfl) ?_
  refine k_ldcw hC gw_916 dJ6_bitCount_0f7a4_11 ?_
  refine lv_iand hx hb dJ6_bitCount_0f7a4_14 ?_
  refine lv_iload_n hx hb dJ6_bitCount_0f7a4_15 rfl (lv_at hl 0 rfl) ?_
  refine lv_iconst (v := 2) hx hb dJ6_bitCount_0f7a4_16 (by decide) ?_
  refine lv_iushr (v := (F_ush (bc1 a) 2)) hx hb dJ6_bitCount_0f7a4_17 rfl ?_
  refine k_ldcw hC gw_916 dJ6_bitCount_0f7a4_18 ?_
  refine lv_iand hx hb dJ6_bitCount_0f7a4_21 ?_
  refine lv_iadd hx hb dJ6_bitCount_0f7a4_22 ?_
  refine lv_topi (fun x_71 ex_71 => ?_)
  obtain rfl : x_71 = (bc2 a) := ex_71.trans rfl
  refine lv_istore_n (lv' := [(0, .int (bc2 a))]) hx hb dJ6_bitCount_0f7a4_23 rfl hl (by decide) rfl (fun ls hl => ?_)
  refine lv_iload_n hx hb dJ6_bitCount_0f7a4_24 rfl (lv_at hl 0 rfl) ?_
  refine lv_iload_n hx hb dJ6_bitCount_0f7a4_25 rfl (lv_at hl 0 rfl) ?_
  refine lv_iconst (v := 4) hx hb dJ6_bitCount_0f7a4_26 (by decide) ?_
  refine lv_iushr (v := (F_ush (bc2 a) 4)) hx hb dJ6_bitCount_0f7a4_27 rfl ?_
  refine lv_iadd hx hb dJ6_bitCount_0f7a4_28 ?_
  refine k_ldcw hC gw_917 dJ6_bitCount_0f7a4_29 ?_
  refine lv_iand hx hb dJ6_bitCount_0f7a4_32 ?_
  refine lv_topi (fun x_72 ex_72 => ?_)
  obtain rfl : x_72 = (bc3 a) := ex_72.trans rfl
  refine lv_istore_n (lv' := [(0, .int (bc3 a))]) hx hb dJ6_bitCount_0f7a4_33 rfl hl (by decide) rfl (fun ls hl => ?_)
  refine lv_iload_n hx hb dJ6_bitCount_0f7a4_34 rfl (lv_at hl 0 rfl) ?_
  refine lv_iload_n hx hb dJ6_bitCount_0f7a4_35 rfl (lv_at hl 0 rfl) ?_
  refine lv_bipush (v := 8) hx hb dJ6_bitCount_0f7a4_36 (by decide) ?_
  refine lv_iushr (v := (F_ush (bc3 a) 8)) hx hb dJ6_bitCount_0f7a4_38 rfl ?_
  refine lv_iadd hx hb dJ6_bitCount_0f7a4_39 ?_
  refine lv_topi (fun x_73 ex_73 => ?_)
  obtain rfl : x_73 = (bc4 a) := ex_73.trans rfl
  refine lv_istore_n (lv' := [(0, .int (bc4 a))]) hx hb dJ6_bitCount_0f7a4_40 rfl hl (by decide) rfl (fun ls hl => ?_)
  refine lv_iload_n hx hb dJ6_bitCount_0f7a4_41 rfl (lv_at hl 0 rfl) ?_
  refine lv_iload_n hx hb dJ6_bitCount_0f7a4_42 rfl (lv_at hl 0 rfl) ?_
  refine lv_bipush (v := 16) hx hb dJ6_bitCount_0f7a4_43 (by decide) ?_
  refine lv_iushr (v := (F_ush (bc4 a) 16)) hx hb dJ6_bitCount_0f7a4_45 rfl ?_
  refine lv_iadd hx hb dJ6_bitCount_0f7a4_46 ?_
  refine lv_topi (fun x_74 ex_74 => ?_)
  obtain rfl : x_74 = (bc5 a) := ex_74.trans rfl
  refine lv_istore_n (lv' := [(0, .int (bc5 a))]) hx hb dJ6_bitCount_0f7a4_47 rfl hl (by decide) rfl (fun ls hl => ?_)
  refine lv_iload_n hx hb dJ6_bitCount_0f7a4_48 rfl (lv_at hl 0 rfl) ?_
  refine lv_bipush (v := 63) hx hb dJ6_bitCount_0f7a4_49 (by decide) ?_
  refine lv_iand hx hb dJ6_bitCount_0f7a4_51 ?_
  refine lv_topi (fun x_75 ex_75 => ?_)
  obtain rfl : x_75 = (F_bc a) := ex_75.trans rfl
  exact k_iret hC hr hlocks hw [] rfl rfl ⟨rfl, rfl⟩ (by decide) (by decide) dJ6_bitCount_0f7a4_52

set_option maxHeartbeats 4000000 in
set_option maxRecDepth 100000 in
theorem lp_bits {γ : kΓ} {l : Launch} {p9 : Program} {e : Env} {s : State} {m : MethodId} {below : List Frame} {meth : Method} {c : Code} {A : Nat → Prop} (a : Int32) (hC : kC γ p9 s m [.int a].toArray c cX12_bits 3 RX12 A) (hr : meth.sig.returnType = (some .int)) (hlocks : meth.locks = false) : ∀ (k : Nat) (i : Nat), 8 - i < k → (i ≤ 8) → ∀ (H : Heap) (locs : List Loc), kW γ A [] s H locs → ∀ ls : Array Slot, lv_has ls 3 [(2, .int (nI i)), (1, .int (biF a i)), (0, .int a)] → W p9 l e ({ frames := 0, cells := 0, slots := 0, locals := 0 } : Room) s m [.int a].toArray below meth c H locs 0 0 (MQ below (kQ γ A (fun r w1 => r = some (.int (biF a 8)) ∧ w1 = [])) [.int a].toArray s 0 0 A) (F0 m 4 ls []) := by
  have hx := hC.1
  have hb := hC.2.1
  intro k
  induction k with
  | zero => intro i hk; exact absurd hk (Nat.not_lt_zero _)
  | succ k ih =>
    intro i hk hi H locs hw ls hl
    refine lv_iload_n hx hb dX12_bits_4 rfl (lv_at hl 0 rfl) ?_
    refine lv_bipush (v := 8) hx hb dX12_bits_5 (by decide) ?_
    refine lv_icmp_ge (tgt := 24) hx hb dX12_bits_7 (by decide) (fun c1 => ?_) (fun c1 => ?_)
    · have hi9 : i = 8 := by have h9 := (nI_g8 (by omega)).mp c1; omega
      rw [hi9] at hl
      refine lv_iload_n hx hb dX12_bits_24 rfl (lv_at hl 1 rfl) ?_
      exact k_iret hC hr hlocks hw [] rfl rfl ⟨rfl, rfl⟩ (by decide) (by decide) dX12_bits_25
    · have hi9 : i < 8 := by rcases Nat.lt_or_ge i 8 with h9 | h9; exact h9; exact absurd ((nI_g8 (by omega)).mpr h9) c1
      refine lv_iload_n hx hb dX12_bits_10 rfl (lv_at hl 1 rfl) ?_
      refine lv_iload_n hx hb dX12_bits_11 rfl (lv_at hl 2 rfl) ?_
      refine lv_iload_n hx hb dX12_bits_12 rfl (lv_at hl 0 rfl) ?_
      refine lv_ishr hx hb dX12_bits_13 ?_
      refine lv_iconst (v := 1) hx hb dX12_bits_14 (by decide) ?_
      refine lv_iand hx hb dX12_bits_15 ?_
      refine lv_iadd hx hb dX12_bits_16 ?_
      refine lv_topi (fun x_76 ex_76 => ?_)
      obtain rfl : x_76 = (biF a (i + 1)) := ex_76.trans rfl
      refine lv_istore_n (lv' := [(1, .int (biF a (i + 1))), (2, .int (nI i)), (0, .int a)]) hx hb dX12_bits_17 rfl hl (by decide) rfl (fun ls hl => ?_)
      refine lv_iinc (v := (nI (i + 1))) (lv' := [(2, .int (nI (i + 1))), (1, .int (biF a (i + 1))), (0, .int a)]) hx hb dX12_bits_18 hl (k := 1) rfl (nI_1 i) (by decide) rfl (fun ls hl => ?_)
      refine lv_goto (tgt := 4) hx hb dX12_bits_21 (by decide) ?_
      exact ih (i + 1) (by omega) (by omega) _ _ (kW.sub hw [] rfl rfl) _ (lv_sub hl [0, 1, 2] rfl)

set_option maxHeartbeats 4000000 in
set_option maxRecDepth 100000 in
theorem c_X12_bits (γ : kΓ) (l : Launch) (a : Int32) : kM γ l yX12_bits cX12_bits 3 ((some .int)) ({ frames := 0, cells := 0, slots := 0, locals := 0 } : Room) [.int a] [] (fun r w1 => r = some (.int (biF a 8)) ∧ w1 = []) := by
  refine k_ofW (by decide) (Nat.le_of_ble_eq_true rfl) ?_
  intro p9 e s m below meth c A ls hC hr hlocks hname hw hl
  have hx := hC.1
  have hb := hC.2.1
  have hl : lv_has ls 3 [(0, .int a)] := hl
  refine lv_iconst (v := 0) hx hb dX12_bits_0 (by decide) ?_
  refine lv_istore_n (lv' := [(1, .int 0), (0, .int a)]) hx hb dX12_bits_1 rfl hl (by decide) rfl (fun ls hl => ?_)
  refine lv_iconst (v := 0) hx hb dX12_bits_2 (by decide) ?_
  refine lv_istore_n (lv' := [(2, .int 0), (1, .int 0), (0, .int a)]) hx hb dX12_bits_3 rfl hl (by decide) rfl (fun ls hl => ?_)
  exact lp_bits a hC hr hlocks 9 0 (by omega) (Nat.zero_le 8) _ _ hw _ (lv_sub hl [0, 1, 2] rfl)

set_option maxHeartbeats 4000000 in
set_option maxRecDepth 100000 in
theorem lp_X11_ask {γ : kΓ} {l : Launch} {p9 : Program} {e : Env} {s : State} {m : MethodId} {below : List Frame} {meth : Method} {c : Code} {A : Nat → Prop} (x : Nat) (x0 : Nat) (x1 : Nat) (x3 : Nat) (x4 : Nat) (x5 : Nat) (x6 : Nat) (x7 : Nat) (x8 : Nat) (x9 : Nat) (x10 : Nat) (a0 : Nat) (a1 : Nat) (a2 : Nat) (a3 : Nat) (a4 : Nat) (a5 : Nat) (a6 : Nat) (a7 : Nat) (T : Nat) (t9 : Int32) (t10 : Int32) (t11 : Int32) (t12 : Int32) (t13 : Int32) (t14 : Int32) (t15 : Int32) (t16 : Int32) (t17 : Int32) (t18 : Int32) (af : Nat → Int32) (x2 : Nat) (st9 : Nat) (yr9 : Nat) (ag9 : Nat) (li9 : Int32) (la9 : Int32) (gf : Nat → Int32) (G : Nat) (hT : T ≤ 8) (hG : G ≤ 8) (hC : kC γ p9 s m [.ref x].toArray c cX11_ask 8 RX11 A) (hr : meth.sig.returnType = (some .int)) (hlocks : meth.locks = false) : ∀ (k : Nat) (i : Nat), T - i < k → (i ≤ T) → ∀ (H : Heap) (locs : List Loc), kW γ A [(x, .inr (10, [.ref x0, .ref x1, .ref x2, .ref x3, .ref x4, .ref x5, .ref x6, .ref x7, .ref x8, .ref x9, .ref x10])), (x9, .inr (0, [.ref a0, .ref a1, .ref a2, .ref a3, .ref a4, .ref a5, .ref a6, .ref a7, .int (nI T), .int t9, .int t10, .int t11, .int t12, .int t13, .int t14, .int t15, .int t16, .int t17, .int t18])), (a3, .inl (γ.2.1 0, 8, .inl af)), (x2, .inr (3, [.ref st9, .ref yr9, .ref ag9, .int li9, .int (nI G), .int la9])), (ag9, .inl (γ.2.1 0, 8, .inl gf))] s H locs → ∀ ls : Array Slot, lv_has ls 8 [(5, .int (nI i)), (4, .int (lsL (F_bc (fiF af gf G T)) (ycF af gf G T) i)), (3, .int (lsA (F_bc (fiF af gf G T)) (ycF af gf G T) i)), (2, .int (F_bc (fiF af gf G T))), (1, .int (fiF af gf G T)), (0, .ref x)] → W p9 l e ({ frames := 3, cells := 0, slots := 0, locals := 65 } : Room) s m [.ref x].toArray below meth c H locs 0 0 (MQ below (kQ γ A (fun r w1 => r = some (.int (asC af gf G T)) ∧ w1 = [(x, .inr (10, [.ref x0, .ref x1, .ref x2, .ref x3, .ref x4, .ref x5, .ref x6, .ref x7, .ref x8, .ref x9, .ref x10])), (x9, .inr (0, [.ref a0, .ref a1, .ref a2, .ref a3, .ref a4, .ref a5, .ref a6, .ref a7, .int (nI T), .int t9, .int t10, .int t11, .int t12, .int t13, .int t14, .int t15, .int t16, .int t17, .int t18])), (a3, .inl (γ.2.1 0, 8, .inl af)), (x2, .inr (3, [.ref st9, .ref yr9, .ref ag9, .int li9, .int (nI G), .int la9])), (ag9, .inl (γ.2.1 0, 8, .inl gf))])) [.ref x].toArray s 0 0 A) (F0 m 18 ls []) := by
  have hx := hC.1
  have hb := hC.2.1
  intro k
  induction k with
  | zero => intro i hk; exact absurd hk (Nat.not_lt_zero _)
  | succ k ih =>
    intro i hk hi H locs hw ls hl
    refine lv_iload hx hb dX11_ask_18 (lv_at hl 0 rfl) ?_
    refine lv_aload_n hx hb dX11_ask_20 rfl (lv_at hl 5 rfl) ?_
    refine fg_RX11_65 hC hw 0 rfl rfl dX11_ask_21 ?_
    refine fg_RX11_108 hC hw 1 rfl rfl dX11_ask_24 ?_
    refine lv_icmp_ge (tgt := 77) hx hb dX11_ask_27 (by decide) (fun c1 => ?_) (fun c1 => ?_)
    · have hi9 : i = T := by have h9 := (nI_leI (a := T) (b := i) (by omega) (by omega)).mp c1; omega
      rw [hi9] at hl
      refine lv_iload_n hx hb dX11_ask_77 rfl (lv_at hl 2 rfl) ?_
      refine W.eq (g2 := F0 m 78 ls [.int (asC af gf G T)]) (congrArg (fun v => F0 m 78 ls [Value.int v]) rfl) ?_
      exact k_iret hC hr hlocks hw [0, 1, 2, 3, 4] rfl rfl ⟨rfl, rfl⟩ (by decide) (by decide) dX11_ask_78
    · have hi9 : i < T := by rcases Nat.lt_or_ge i T with h9 | h9; exact h9; exact absurd (nI_le h9 (by omega)) c1
      refine lv_iload_n hx hb dX11_ask_30 rfl (lv_at hl 4 rfl) ?_
      refine lv_aload_n hx hb dX11_ask_31 rfl (lv_at hl 5 rfl) ?_
      refine fg_RX11_65 hC hw 0 rfl rfl dX11_ask_32 ?_
      refine lv_iload hx hb dX11_ask_35 (lv_at hl 0 rfl) ?_
      refine k_V (wr := [(x, .inr (10, [.ref x0, .ref x1, .ref x2, .ref x3, .ref x4, .ref x5, .ref x6, .ref x7, .ref x8, .ref x9, .ref x10])), (x2, .inr (3, [.ref st9, .ref yr9, .ref ag9, .int li9, .int (nI G), .int la9])), (ag9, .inl (γ.2.1 0, 8, .inl gf))]) 1 gw_1016 gw_1017 gw_1018 gw_13 gw_1019 hd_X0_before hC hw (c_X0_before γ l x9 a0 a1 a2 a3 a4 a5 a6 a7 T t9 t10 t11 t12 t13 t14 t15 t16 t17 t18 af (nI i) hT) ⟨by decide, by decide⟩ ⟨by decide, by decide⟩ hl.1 rfl 1 rfl rfl rfl (Nat.le_of_ble_eq_true rfl) [1, 2] [0, 3, 4] rfl rfl rfl rfl (by decide) dX11_ask_37 (fun r w1 H locs hq hw => ?_)
      obtain ⟨rfl, rfl⟩ := hq
      have hw : kW γ A [(x, .inr (10, [.ref x0, .ref x1, .ref x2, .ref x3, .ref x4, .ref x5, .ref x6, .ref x7, .ref x8, .ref x9, .ref x10])), (x2, .inr (3, [.ref st9, .ref yr9, .ref ag9, .int li9, .int (nI G), .int la9])), (ag9, .inl (γ.2.1 0, 8, .inl gf)), (x9, .inr (0, [.ref a0, .ref a1, .ref a2, .ref a3, .ref a4, .ref a5, .ref a6, .ref a7, .int (nI T), .int t9, .int t10, .int t11, .int t12, .int t13, .int t14, .int t15, .int t16, .int t17, .int t18])), (a3, .inl (γ.2.1 0, 8, .inl af))] s H locs := hw
      refine W.eq (g2 := F0 m 40 ls [.int (beF af (nI i) T), .int (fiF af gf G T)]) rfl ?_
      refine lv_iand hx hb dX11_ask_40 ?_
      refine k_S (wr := [(x, .inr (10, [.ref x0, .ref x1, .ref x2, .ref x3, .ref x4, .ref x5, .ref x6, .ref x7, .ref x8, .ref x9, .ref x10])), (x2, .inr (3, [.ref st9, .ref yr9, .ref ag9, .int li9, .int (nI G), .int la9])), (ag9, .inl (γ.2.1 0, 8, .inl gf)), (x9, .inr (0, [.ref a0, .ref a1, .ref a2, .ref a3, .ref a4, .ref a5, .ref a6, .ref a7, .int (nI T), .int t9, .int t10, .int t11, .int t12, .int t13, .int t14, .int t15, .int t16, .int t17, .int t18])), (a3, .inl (γ.2.1 0, 8, .inl af))]) 1 gw_927 gw_913 gw_22 gw_914 hd_J6_bitCount_0f7a4 hC hw (c_bc γ l ((fiF af gf G T) &&& (beF af (nI i) T))) ⟨by decide, by decide⟩ ⟨by decide, by decide⟩ hl.1 rfl rfl (Nat.le_of_ble_eq_true rfl) [] [0, 1, 2, 3, 4] rfl rfl rfl rfl (by decide) dX11_ask_41 (fun r w1 H locs hq hw => ?_)
      obtain ⟨rfl, rfl⟩ := hq
      have hw : kW γ A [(x, .inr (10, [.ref x0, .ref x1, .ref x2, .ref x3, .ref x4, .ref x5, .ref x6, .ref x7, .ref x8, .ref x9, .ref x10])), (x2, .inr (3, [.ref st9, .ref yr9, .ref ag9, .int li9, .int (nI G), .int la9])), (ag9, .inl (γ.2.1 0, 8, .inl gf)), (x9, .inr (0, [.ref a0, .ref a1, .ref a2, .ref a3, .ref a4, .ref a5, .ref a6, .ref a7, .int (nI T), .int t9, .int t10, .int t11, .int t12, .int t13, .int t14, .int t15, .int t16, .int t17, .int t18])), (a3, .inl (γ.2.1 0, 8, .inl af))] s H locs := hw
      refine W.eq (g2 := F0 m 44 ls [.int (F_bc ((fiF af gf G T) &&& (beF af (nI i) T)))]) rfl ?_
      refine lv_istore (lv' := [(6, .int (F_bc ((fiF af gf G T) &&& (beF af (nI i) T)))), (5, .int (nI i)), (4, .int (lsL (F_bc (fiF af gf G T)) (ycF af gf G T) i)), (3, .int (lsA (F_bc (fiF af gf G T)) (ycF af gf G T) i)), (2, .int (F_bc (fiF af gf G T))), (1, .int (fiF af gf G T)), (0, .ref x)]) hx hb dX11_ask_44 hl (by decide) rfl (fun ls hl => ?_)
      refine lv_iload hx hb dX11_ask_46 (lv_at hl 0 rfl) ?_
      refine lv_iload_n hx hb dX11_ask_48 rfl (lv_at hl 4 rfl) ?_
      refine lv_iload hx hb dX11_ask_49 (lv_at hl 0 rfl) ?_
      refine lv_isub hx hb dX11_ask_51 ?_
      refine k_mmax hC gw_1020 hl.1 (by decide) (Nat.le_of_ble_eq_true rfl) (Nat.zero_le _) (Nat.zero_le _) dX11_ask_52 ?_
      refine W.eq (g2 := F0 m 55 ls [.int (F_mx (F_bc ((fiF af gf G T) &&& (beF af (nI i) T))) ((F_bc (fiF af gf G T)) - (F_bc ((fiF af gf G T) &&& (beF af (nI i) T)))))]) rfl ?_
      refine lv_istore (lv' := [(7, .int (F_mx (F_bc ((fiF af gf G T) &&& (beF af (nI i) T))) ((F_bc (fiF af gf G T)) - (F_bc ((fiF af gf G T) &&& (beF af (nI i) T)))))), (6, .int (F_bc ((fiF af gf G T) &&& (beF af (nI i) T)))), (5, .int (nI i)), (4, .int (lsL (F_bc (fiF af gf G T)) (ycF af gf G T) i)), (3, .int (lsA (F_bc (fiF af gf G T)) (ycF af gf G T) i)), (2, .int (F_bc (fiF af gf G T))), (1, .int (fiF af gf G T)), (0, .ref x)]) hx hb dX11_ask_55 hl (by decide) rfl (fun ls hl => ?_)
      refine lv_iload hx hb dX11_ask_57 (lv_at hl 0 rfl) ?_
      refine lv_iload hx hb dX11_ask_59 (lv_at hl 3 rfl) ?_
      refine lv_icmp_ge (tgt := 71) hx hb dX11_ask_61 (by decide) (fun c2 => ?_) (fun c2 => ?_)
      · have h3 : ¬ F_mx (ycF af gf G T i) ((F_bc (fiF af gf G T)) - ycF af gf G T i) < (lsL (F_bc (fiF af gf G T)) (ycF af gf G T) i) := Int32.not_lt.mpr c2
        rw [lsL_n h3, lsA_n h3] at hl
        refine lv_iinc (v := (nI (i + 1))) (lv' := [(5, .int (nI (i + 1))), (7, .int (F_mx (F_bc ((fiF af gf G T) &&& (beF af (nI i) T))) ((F_bc (fiF af gf G T)) - (F_bc ((fiF af gf G T) &&& (beF af (nI i) T)))))), (6, .int (F_bc ((fiF af gf G T) &&& (beF af (nI i) T)))), (4, .int (lsL (F_bc (fiF af gf G T)) (ycF af gf G T) (i + 1))), (3, .int (lsA (F_bc (fiF af gf G T)) (ycF af gf G T) (i + 1))), (2, .int (F_bc (fiF af gf G T))), (1, .int (fiF af gf G T)), (0, .ref x)]) hx hb dX11_ask_71 hl (k := 2) rfl (nI_1 i) (by decide) rfl (fun ls hl => ?_)
        refine lv_goto (tgt := 18) hx hb dX11_ask_74 (by decide) ?_
        exact ih (i + 1) (by omega) (by omega) _ _ (kW.sub hw [0, 3, 4, 1, 2] rfl rfl) _ (lv_sub hl [0, 3, 4, 5, 6, 7] rfl)
      · have h3 : F_mx (ycF af gf G T i) ((F_bc (fiF af gf G T)) - ycF af gf G T i) < (lsL (F_bc (fiF af gf G T)) (ycF af gf G T) i) := Int32.not_le.mp c2
        refine lv_iload hx hb dX11_ask_64 (lv_at hl 0 rfl) ?_
        refine W.eq (g2 := F0 m 66 ls [.int (lsL (F_bc (fiF af gf G T)) (ycF af gf G T) (i + 1))]) (congrArg (fun v => F0 m 66 ls [Value.int v]) (lsL_y h3).symm) ?_
        refine lv_istore (lv' := [(4, .int (lsL (F_bc (fiF af gf G T)) (ycF af gf G T) (i + 1))), (7, .int (F_mx (F_bc ((fiF af gf G T) &&& (beF af (nI i) T))) ((F_bc (fiF af gf G T)) - (F_bc ((fiF af gf G T) &&& (beF af (nI i) T)))))), (6, .int (F_bc ((fiF af gf G T) &&& (beF af (nI i) T)))), (5, .int (nI i)), (3, .int (lsA (F_bc (fiF af gf G T)) (ycF af gf G T) i)), (2, .int (F_bc (fiF af gf G T))), (1, .int (fiF af gf G T)), (0, .ref x)]) hx hb dX11_ask_66 hl (by decide) rfl (fun ls hl => ?_)
        refine lv_iload hx hb dX11_ask_68 (lv_at hl 3 rfl) ?_
        refine W.eq (g2 := F0 m 70 ls [.int (lsA (F_bc (fiF af gf G T)) (ycF af gf G T) (i + 1))]) (congrArg (fun v => F0 m 70 ls [Value.int v]) (lsA_y h3).symm) ?_
        refine lv_istore_n (lv' := [(3, .int (lsA (F_bc (fiF af gf G T)) (ycF af gf G T) (i + 1))), (4, .int (lsL (F_bc (fiF af gf G T)) (ycF af gf G T) (i + 1))), (7, .int (F_mx (F_bc ((fiF af gf G T) &&& (beF af (nI i) T))) ((F_bc (fiF af gf G T)) - (F_bc ((fiF af gf G T) &&& (beF af (nI i) T)))))), (6, .int (F_bc ((fiF af gf G T) &&& (beF af (nI i) T)))), (5, .int (nI i)), (2, .int (F_bc (fiF af gf G T))), (1, .int (fiF af gf G T)), (0, .ref x)]) hx hb dX11_ask_70 rfl hl (by decide) rfl (fun ls hl => ?_)
        refine lv_iinc (v := (nI (i + 1))) (lv' := [(5, .int (nI (i + 1))), (3, .int (lsA (F_bc (fiF af gf G T)) (ycF af gf G T) (i + 1))), (4, .int (lsL (F_bc (fiF af gf G T)) (ycF af gf G T) (i + 1))), (7, .int (F_mx (F_bc ((fiF af gf G T) &&& (beF af (nI i) T))) ((F_bc (fiF af gf G T)) - (F_bc ((fiF af gf G T) &&& (beF af (nI i) T)))))), (6, .int (F_bc ((fiF af gf G T) &&& (beF af (nI i) T)))), (2, .int (F_bc (fiF af gf G T))), (1, .int (fiF af gf G T)), (0, .ref x)]) hx hb dX11_ask_71 hl (k := 4) rfl (nI_1 i) (by decide) rfl (fun ls hl => ?_)
        refine lv_goto (tgt := 18) hx hb dX11_ask_74 (by decide) ?_
        exact ih (i + 1) (by omega) (by omega) _ _ (kW.sub hw [0, 3, 4, 1, 2] rfl rfl) _ (lv_sub hl [0, 2, 1, 5, 6, 7] rfl)

set_option maxHeartbeats 4000000 in
set_option maxRecDepth 100000 in
theorem c_X11_ask (γ : kΓ) (l : Launch) (x : Nat) (x0 : Nat) (x1 : Nat) (x3 : Nat) (x4 : Nat) (x5 : Nat) (x6 : Nat) (x7 : Nat) (x8 : Nat) (x9 : Nat) (x10 : Nat) (a0 : Nat) (a1 : Nat) (a2 : Nat) (a3 : Nat) (a4 : Nat) (a5 : Nat) (a6 : Nat) (a7 : Nat) (T : Nat) (t9 : Int32) (t10 : Int32) (t11 : Int32) (t12 : Int32) (t13 : Int32) (t14 : Int32) (t15 : Int32) (t16 : Int32) (t17 : Int32) (t18 : Int32) (af : Nat → Int32) (x2 : Nat) (st9 : Nat) (yr9 : Nat) (ag9 : Nat) (li9 : Int32) (la9 : Int32) (gf : Nat → Int32) (G : Nat) (hT : T ≤ 8) (hG : G ≤ 8) : kM γ l yX11_ask cX11_ask 8 ((some .int)) ({ frames := 3, cells := 0, slots := 0, locals := 65 } : Room) [.ref x] [(x, .inr (10, [.ref x0, .ref x1, .ref x2, .ref x3, .ref x4, .ref x5, .ref x6, .ref x7, .ref x8, .ref x9, .ref x10])), (x9, .inr (0, [.ref a0, .ref a1, .ref a2, .ref a3, .ref a4, .ref a5, .ref a6, .ref a7, .int (nI T), .int t9, .int t10, .int t11, .int t12, .int t13, .int t14, .int t15, .int t16, .int t17, .int t18])), (a3, .inl (γ.2.1 0, 8, .inl af)), (x2, .inr (3, [.ref st9, .ref yr9, .ref ag9, .int li9, .int (nI G), .int la9])), (ag9, .inl (γ.2.1 0, 8, .inl gf))] (fun r w1 => r = some (.int (asC af gf G T)) ∧ w1 = [(x, .inr (10, [.ref x0, .ref x1, .ref x2, .ref x3, .ref x4, .ref x5, .ref x6, .ref x7, .ref x8, .ref x9, .ref x10])), (x9, .inr (0, [.ref a0, .ref a1, .ref a2, .ref a3, .ref a4, .ref a5, .ref a6, .ref a7, .int (nI T), .int t9, .int t10, .int t11, .int t12, .int t13, .int t14, .int t15, .int t16, .int t17, .int t18])), (a3, .inl (γ.2.1 0, 8, .inl af)), (x2, .inr (3, [.ref st9, .ref yr9, .ref ag9, .int li9, .int (nI G), .int la9])), (ag9, .inl (γ.2.1 0, 8, .inl gf))]) := by
  refine k_ofW (by decide) (Nat.le_of_ble_eq_true rfl) ?_
  intro p9 e s m below meth c A ls hC hr hlocks hname hw hl
  have hx := hC.1
  have hb := hC.2.1
  have hl : lv_has ls 8 [(0, .ref x)] := hl
  refine lv_aload_n hx hb dX11_ask_0 rfl (lv_at hl 0 rfl) ?_
  refine k_V (wr := []) 0 gw_1015 gw_1003 gw_1004 gw_1 gw_1005 hd_X11_fits hC hw (c_X11_fits γ l x x0 x1 x3 x4 x5 x6 x7 x8 x9 x10 a0 a1 a2 a3 a4 a5 a6 a7 T t9 t10 t11 t12 t13 t14 t15 t16 t17 t18 af x2 st9 yr9 ag9 li9 la9 gf G hT hG) ⟨by decide, by decide⟩ ⟨by decide, by decide⟩ hl.1 rfl 0 rfl rfl rfl (Nat.le_of_ble_eq_true rfl) [0, 1, 2, 3, 4] [] rfl rfl rfl rfl (by decide) dX11_ask_1 (fun r w1 H locs hq hw => ?_)
  obtain ⟨rfl, rfl⟩ := hq
  have hw : kW γ A [(x, .inr (10, [.ref x0, .ref x1, .ref x2, .ref x3, .ref x4, .ref x5, .ref x6, .ref x7, .ref x8, .ref x9, .ref x10])), (x9, .inr (0, [.ref a0, .ref a1, .ref a2, .ref a3, .ref a4, .ref a5, .ref a6, .ref a7, .int (nI T), .int t9, .int t10, .int t11, .int t12, .int t13, .int t14, .int t15, .int t16, .int t17, .int t18])), (a3, .inl (γ.2.1 0, 8, .inl af)), (x2, .inr (3, [.ref st9, .ref yr9, .ref ag9, .int li9, .int (nI G), .int la9])), (ag9, .inl (γ.2.1 0, 8, .inl gf))] s H locs := hw
  refine W.eq (g2 := F0 m 4 ls [.int (fiF af gf G T)]) rfl ?_
  refine lv_istore_n (lv' := [(1, .int (fiF af gf G T)), (0, .ref x)]) hx hb dX11_ask_4 rfl hl (by decide) rfl (fun ls hl => ?_)
  refine lv_iload_n hx hb dX11_ask_5 rfl (lv_at hl 0 rfl) ?_
  refine k_S (wr := [(x, .inr (10, [.ref x0, .ref x1, .ref x2, .ref x3, .ref x4, .ref x5, .ref x6, .ref x7, .ref x8, .ref x9, .ref x10])), (x9, .inr (0, [.ref a0, .ref a1, .ref a2, .ref a3, .ref a4, .ref a5, .ref a6, .ref a7, .int (nI T), .int t9, .int t10, .int t11, .int t12, .int t13, .int t14, .int t15, .int t16, .int t17, .int t18])), (a3, .inl (γ.2.1 0, 8, .inl af)), (x2, .inr (3, [.ref st9, .ref yr9, .ref ag9, .int li9, .int (nI G), .int la9])), (ag9, .inl (γ.2.1 0, 8, .inl gf))]) 1 gw_927 gw_913 gw_22 gw_914 hd_J6_bitCount_0f7a4 hC hw (c_bc γ l (fiF af gf G T)) ⟨by decide, by decide⟩ ⟨by decide, by decide⟩ hl.1 rfl rfl (Nat.le_of_ble_eq_true rfl) [] [0, 1, 2, 3, 4] rfl rfl rfl rfl (by decide) dX11_ask_6 (fun r w1 H locs hq hw => ?_)
  obtain ⟨rfl, rfl⟩ := hq
  have hw : kW γ A [(x, .inr (10, [.ref x0, .ref x1, .ref x2, .ref x3, .ref x4, .ref x5, .ref x6, .ref x7, .ref x8, .ref x9, .ref x10])), (x9, .inr (0, [.ref a0, .ref a1, .ref a2, .ref a3, .ref a4, .ref a5, .ref a6, .ref a7, .int (nI T), .int t9, .int t10, .int t11, .int t12, .int t13, .int t14, .int t15, .int t16, .int t17, .int t18])), (a3, .inl (γ.2.1 0, 8, .inl af)), (x2, .inr (3, [.ref st9, .ref yr9, .ref ag9, .int li9, .int (nI G), .int la9])), (ag9, .inl (γ.2.1 0, 8, .inl gf))] s H locs := hw
  refine W.eq (g2 := F0 m 9 ls [.int (F_bc (fiF af gf G T))]) rfl ?_
  refine lv_istore_n (lv' := [(2, .int (F_bc (fiF af gf G T))), (1, .int (fiF af gf G T)), (0, .ref x)]) hx hb dX11_ask_9 rfl hl (by decide) rfl (fun ls hl => ?_)
  refine lv_iconst (v := (-1)) hx hb dX11_ask_10 (by decide) ?_
  refine lv_istore_n (lv' := [(3, .int (-1)), (2, .int (F_bc (fiF af gf G T))), (1, .int (fiF af gf G T)), (0, .ref x)]) hx hb dX11_ask_11 rfl hl (by decide) rfl (fun ls hl => ?_)
  refine lv_iload_n hx hb dX11_ask_12 rfl (lv_at hl 1 rfl) ?_
  refine lv_istore (lv' := [(4, .int (F_bc (fiF af gf G T))), (3, .int (-1)), (2, .int (F_bc (fiF af gf G T))), (1, .int (fiF af gf G T)), (0, .ref x)]) hx hb dX11_ask_13 hl (by decide) rfl (fun ls hl => ?_)
  refine lv_iconst (v := 0) hx hb dX11_ask_15 (by decide) ?_
  refine lv_istore (lv' := [(5, .int 0), (4, .int (F_bc (fiF af gf G T))), (3, .int (-1)), (2, .int (F_bc (fiF af gf G T))), (1, .int (fiF af gf G T)), (0, .ref x)]) hx hb dX11_ask_16 hl (by decide) rfl (fun ls hl => ?_)
  exact lp_X11_ask x x0 x1 x3 x4 x5 x6 x7 x8 x9 x10 a0 a1 a2 a3 a4 a5 a6 a7 T t9 t10 t11 t12 t13 t14 t15 t16 t17 t18 af x2 st9 yr9 ag9 li9 la9 gf G hT hG hC hr hlocks (T + 1) 0 (by omega) (Nat.zero_le T) _ _ (kW.sub hw [0, 1, 2, 3, 4] rfl rfl) _ (lv_sub hl [0, 1, 2, 3, 4, 5] rfl)

set_option maxHeartbeats 4000000 in
set_option maxRecDepth 100000 in
theorem lp_X12_ask {γ : kΓ} {l : Launch} {p9 : Program} {e : Env} {s : State} {m : MethodId} {below : List Frame} {meth : Method} {c : Code} {A : Nat → Prop} (z : Nat) (z2 : Nat) (z10 : Nat) (z11 : Nat) (z12 : Nat) (z13 : Nat) (z14 : Nat) (z15 : Nat) (z16 : Nat) (z17 : Nat) (z18 : Nat) (z19 : Nat) (z22 : Nat) (z23 : Nat) (z24 : Nat) (z25 : Nat) (z26 : Nat) (z27 : Nat) (z28 : Nat) (z29 : Nat) (z30 : Nat) (z31 : Nat) (z32 : Nat) (z33 : Nat) (z36 : Nat) (z37 : Nat) (z38 : Nat) (z39 : Nat) (z40 : Nat) (z41 : Nat) (z42 : Nat) (z43 : Nat) (z44 : Nat) (z45 : Nat) (z46 : Nat) (z47 : Nat) (z48 : Nat) (z55 : Nat) (z56 : Nat) (z59 : Nat) (z60 : Nat) (z61 : Nat) (n0 : Int32) (n1 : Int32) (n3 : Int32) (n4 : Int32) (n5 : Int32) (n6 : Int32) (n7 : Int64) (n8 : Int32) (n9 : Int32) (n20 : Int32) (n21 : Int32) (n34 : Int32) (n35 : Int64) (n49 : Int32) (n50 : Int32) (n51 : Int32) (n52 : Int32) (n53 : Int32) (n54 : Int32) (n57 : Int32) (n58 : Int32) (n62 : Int32) (n63 : Int64) (ab : Nat → Int32) (bh : Nat → Int32) (gs : Nat → Int32) (go : Nat → Int32) (gm : Nat → Int32) (T : Nat) (G : Nat) (h0 : ab 0 = nI T) (hg0 : gs 0 = nI G) (hT : T ≤ 8) (hG : G ≤ 8) (hC : kC γ p9 s m [.ref z].toArray c cX12_ask 7 RX12 A) (hr : meth.sig.returnType = (some .int)) (hlocks : meth.locks = false) : ∀ (k : Nat) (i : Nat), T - i < k → (i ≤ T) → ∀ (H : Heap) (locs : List Loc), kW γ A [(z, .inr (11, [.int 0, .int n1, .ref z2, .int n3, .int n4, .int n5, .int n6, .long n7, .int n8, .int n9, .ref z10, .ref z11, .ref z12, .ref z13, .ref z14, .ref z15, .ref z16, .ref z17, .ref z18, .ref z19, .int n20, .int n21, .ref z22, .ref z23, .ref z24, .ref z25, .ref z26, .ref z27, .ref z28, .ref z29, .ref z30, .ref z31, .ref z32, .ref z33, .int n34, .long n35, .ref z36, .ref z37, .ref z38, .ref z39, .ref z40, .ref z41, .ref z42, .ref z43, .ref z44, .ref z45, .ref z46, .ref z47, .ref z48, .int n49, .int n50, .int n51, .int n52, .int n53, .int n54, .ref z55, .ref z56, .int n57, .int n58, .ref z59, .ref z60, .ref z61, .int n62, .long n63])), (z10, .inl (γ.2.1 0, 10, .inl ab)), (z15, .inl (γ.2.1 0, 16, .inl bh)), (z40, .inl (γ.2.1 0, 5, .inl gs)), (z41, .inl (γ.2.1 0, 40, .inl go)), (z42, .inl (γ.2.1 3, 40, .inl gm))] s H locs → ∀ ls : Array Slot, lv_has ls 7 [(4, .int (nI i)), (2, .int (lsL (biF (miF bh go gm G T) 8) (ymF bh go gm G T) i)), (3, .int (lsA (biF (miF bh go gm G T) 8) (ymF bh go gm G T) i)), (0, .ref z), (1, .int (miF bh go gm G T))] → W p9 l e ({ frames := 1, cells := 0, slots := 0, locals := 24 } : Room) s m [.ref z].toArray below meth c H locs 0 0 (MQ below (kQ γ A (fun r w1 => r = some (.int (asM bh go gm G T)) ∧ w1 = [(z, .inr (11, [.int 0, .int n1, .ref z2, .int n3, .int n4, .int n5, .int n6, .long n7, .int n8, .int n9, .ref z10, .ref z11, .ref z12, .ref z13, .ref z14, .ref z15, .ref z16, .ref z17, .ref z18, .ref z19, .int n20, .int n21, .ref z22, .ref z23, .ref z24, .ref z25, .ref z26, .ref z27, .ref z28, .ref z29, .ref z30, .ref z31, .ref z32, .ref z33, .int n34, .long n35, .ref z36, .ref z37, .ref z38, .ref z39, .ref z40, .ref z41, .ref z42, .ref z43, .ref z44, .ref z45, .ref z46, .ref z47, .ref z48, .int n49, .int n50, .int n51, .int n52, .int n53, .int n54, .ref z55, .ref z56, .int n57, .int n58, .ref z59, .ref z60, .ref z61, .int n62, .long n63])), (z10, .inl (γ.2.1 0, 10, .inl ab)), (z15, .inl (γ.2.1 0, 16, .inl bh)), (z40, .inl (γ.2.1 0, 5, .inl gs)), (z41, .inl (γ.2.1 0, 40, .inl go)), (z42, .inl (γ.2.1 3, 40, .inl gm))])) [.ref z].toArray s 0 0 A) (F0 m 20 ls []) := by
  have hx := hC.1
  have hb := hC.2.1
  intro k
  induction k with
  | zero => intro i hk; exact absurd hk (Nat.not_lt_zero _)
  | succ k ih =>
    intro i hk hi H locs hw ls hl
    refine lv_iload hx hb dX12_ask_20 (lv_at hl 0 rfl) ?_
    refine lv_aload_n hx hb dX12_ask_22 rfl (lv_at hl 3 rfl) ?_
    refine fg_RX12_13 hC hw 0 rfl rfl dX12_ask_23 ?_
    refine lv_iconst (v := 0) hx hb dX12_ask_26 (by decide) ?_
    refine k_iald hC hw 1 rfl (k_in0 (by decide)) dX12_ask_27 ?_
    refine lv_topi (fun x_77 ex_77 => ?_)
    obtain rfl : x_77 = (nI T) := (show x_77 = ab 0 from ex_77).trans h0
    refine lv_icmp_ge (tgt := 125) hx hb dX12_ask_28 (by decide) (fun c1 => ?_) (fun c1 => ?_)
    · have hi9 : i = T := by have h9 := (nI_leI (a := T) (b := i) (by omega) (by omega)).mp c1; omega
      rw [hi9] at hl
      refine lv_iload_n hx hb dX12_ask_125 rfl (lv_at hl 2 rfl) ?_
      refine W.eq (g2 := F0 m 126 ls [.int (asM bh go gm G T)]) (congrArg (fun v => F0 m 126 ls [Value.int v]) rfl) ?_
      exact k_iret hC hr hlocks hw [0, 1, 2, 3, 4, 5] rfl rfl ⟨rfl, rfl⟩ (by decide) (by decide) dX12_ask_126
    · have hi9 : i < T := by rcases Nat.lt_or_ge i T with h9 | h9; exact h9; exact absurd (nI_le h9 (by omega)) c1
      refine lv_iconst (v := 0) hx hb dX12_ask_31 (by decide) ?_
      refine lv_istore (lv' := [(5, .int 0), (4, .int (nI i)), (2, .int (lsL (biF (miF bh go gm G T) 8) (ymF bh go gm G T) i)), (3, .int (lsA (biF (miF bh go gm G T) 8) (ymF bh go gm G T) i)), (0, .ref z), (1, .int (miF bh go gm G T))]) hx hb dX12_ask_32 hl (by decide) rfl (fun ls hl => ?_)
      refine lv_iconst (v := 0) hx hb dX12_ask_34 (by decide) ?_
      refine lv_istore (lv' := [(6, .int 0), (5, .int 0), (4, .int (nI i)), (2, .int (lsL (biF (miF bh go gm G T) 8) (ymF bh go gm G T) i)), (3, .int (lsA (biF (miF bh go gm G T) 8) (ymF bh go gm G T) i)), (0, .ref z), (1, .int (miF bh go gm G T))]) hx hb dX12_ask_35 hl (by decide) rfl (fun ls hl => ?_)
      have hin : ∀ (q j : Nat), j + q = T → ∀ ls : Array Slot, lv_has ls 7 [(6, .int (nI j)), (5, .int (anF (miF bh go gm G T) bh (nI i) j)), (4, .int (nI i)), (2, .int (lsL (biF (miF bh go gm G T) 8) (ymF bh go gm G T) i)), (3, .int (lsA (biF (miF bh go gm G T) 8) (ymF bh go gm G T) i)), (0, .ref z), (1, .int (miF bh go gm G T))] → W p9 l e ({ frames := 1, cells := 0, slots := 0, locals := 24 } : Room) s m [.ref z].toArray below meth c H locs 0 0 (MQ below (kQ γ A (fun r w1 => r = some (.int (asM bh go gm G T)) ∧ w1 = [(z, .inr (11, [.int 0, .int n1, .ref z2, .int n3, .int n4, .int n5, .int n6, .long n7, .int n8, .int n9, .ref z10, .ref z11, .ref z12, .ref z13, .ref z14, .ref z15, .ref z16, .ref z17, .ref z18, .ref z19, .int n20, .int n21, .ref z22, .ref z23, .ref z24, .ref z25, .ref z26, .ref z27, .ref z28, .ref z29, .ref z30, .ref z31, .ref z32, .ref z33, .int n34, .long n35, .ref z36, .ref z37, .ref z38, .ref z39, .ref z40, .ref z41, .ref z42, .ref z43, .ref z44, .ref z45, .ref z46, .ref z47, .ref z48, .int n49, .int n50, .int n51, .int n52, .int n53, .int n54, .ref z55, .ref z56, .int n57, .int n58, .ref z59, .ref z60, .ref z61, .int n62, .long n63])), (z10, .inl (γ.2.1 0, 10, .inl ab)), (z15, .inl (γ.2.1 0, 16, .inl bh)), (z40, .inl (γ.2.1 0, 5, .inl gs)), (z41, .inl (γ.2.1 0, 40, .inl go)), (z42, .inl (γ.2.1 3, 40, .inl gm))])) [.ref z].toArray s 0 0 A) (F0 m 37 ls []) := by
        intro q
        induction q with
        | zero =>
          intro j hj ls hl
          have hj9 : j = T := by omega
          refine lv_iload hx hb dX12_ask_37 (lv_at hl 0 rfl) ?_
          refine lv_aload_n hx hb dX12_ask_39 rfl (lv_at hl 5 rfl) ?_
          refine fg_RX12_13 hC hw 0 rfl rfl dX12_ask_40 ?_
          refine lv_iconst (v := 0) hx hb dX12_ask_43 (by decide) ?_
          refine k_iald hC hw 1 rfl (k_in0 (by decide)) dX12_ask_44 ?_
          refine lv_topi (fun x_78 ex_78 => ?_)
          obtain rfl : x_78 = (nI T) := (show x_78 = ab 0 from ex_78).trans h0
          refine lv_icmp_ge (tgt := 90) hx hb dX12_ask_45 (by decide) (fun _ => ?_) (fun h => absurd (nI_le (a := T) (b := j) (by omega) (by omega)) h)
          rw [hj9] at hl
          refine lv_iload hx hb dX12_ask_90 (lv_at hl 1 rfl) ?_
          refine lv_iload_n hx hb dX12_ask_92 rfl (lv_at hl 6 rfl) ?_
          refine k_S (wr := [(z, .inr (11, [.int 0, .int n1, .ref z2, .int n3, .int n4, .int n5, .int n6, .long n7, .int n8, .int n9, .ref z10, .ref z11, .ref z12, .ref z13, .ref z14, .ref z15, .ref z16, .ref z17, .ref z18, .ref z19, .int n20, .int n21, .ref z22, .ref z23, .ref z24, .ref z25, .ref z26, .ref z27, .ref z28, .ref z29, .ref z30, .ref z31, .ref z32, .ref z33, .int n34, .long n35, .ref z36, .ref z37, .ref z38, .ref z39, .ref z40, .ref z41, .ref z42, .ref z43, .ref z44, .ref z45, .ref z46, .ref z47, .ref z48, .int n49, .int n50, .int n51, .int n52, .int n53, .int n54, .ref z55, .ref z56, .int n57, .int n58, .ref z59, .ref z60, .ref z61, .int n62, .long n63])), (z10, .inl (γ.2.1 0, 10, .inl ab)), (z15, .inl (γ.2.1 0, 16, .inl bh)), (z40, .inl (γ.2.1 0, 5, .inl gs)), (z41, .inl (γ.2.1 0, 40, .inl go)), (z42, .inl (γ.2.1 3, 40, .inl gm))]) 1 gw_1701 gw_1702 gw_15 gw_1703 hd_X12_bits hC hw (c_X12_bits γ l (miF bh go gm G T)) ⟨by decide, by decide⟩ ⟨by decide, by decide⟩ hl.1 rfl rfl (Nat.le_of_ble_eq_true rfl) [] [0, 1, 2, 3, 4, 5] rfl rfl rfl rfl (by decide) dX12_ask_93 (fun r w1 H locs hq hw => ?_)
          obtain ⟨rfl, rfl⟩ := hq
          have hw : kW γ A [(z, .inr (11, [.int 0, .int n1, .ref z2, .int n3, .int n4, .int n5, .int n6, .long n7, .int n8, .int n9, .ref z10, .ref z11, .ref z12, .ref z13, .ref z14, .ref z15, .ref z16, .ref z17, .ref z18, .ref z19, .int n20, .int n21, .ref z22, .ref z23, .ref z24, .ref z25, .ref z26, .ref z27, .ref z28, .ref z29, .ref z30, .ref z31, .ref z32, .ref z33, .int n34, .long n35, .ref z36, .ref z37, .ref z38, .ref z39, .ref z40, .ref z41, .ref z42, .ref z43, .ref z44, .ref z45, .ref z46, .ref z47, .ref z48, .int n49, .int n50, .int n51, .int n52, .int n53, .int n54, .ref z55, .ref z56, .int n57, .int n58, .ref z59, .ref z60, .ref z61, .int n62, .long n63])), (z10, .inl (γ.2.1 0, 10, .inl ab)), (z15, .inl (γ.2.1 0, 16, .inl bh)), (z40, .inl (γ.2.1 0, 5, .inl gs)), (z41, .inl (γ.2.1 0, 40, .inl go)), (z42, .inl (γ.2.1 3, 40, .inl gm))] s H locs := hw
          refine W.eq (g2 := F0 m 96 ls [.int (biF (miF bh go gm G T) 8), .int (anF (miF bh go gm G T) bh (nI i) T)]) rfl ?_
          refine lv_iload hx hb dX12_ask_96 (lv_at hl 1 rfl) ?_
          refine lv_isub hx hb dX12_ask_98 ?_
          refine k_mmax hC gw_1627 hl.1 (by decide) (Nat.le_of_ble_eq_true rfl) (Nat.zero_le _) (Nat.zero_le _) dX12_ask_99 ?_
          refine W.eq (g2 := F0 m 102 ls [.int (F_mx (anF (miF bh go gm G T) bh (nI i) T) ((biF (miF bh go gm G T) 8) - (anF (miF bh go gm G T) bh (nI i) T)))]) rfl ?_
          refine lv_istore (lv' := [(5, .int (F_mx (anF (miF bh go gm G T) bh (nI i) T) ((biF (miF bh go gm G T) 8) - (anF (miF bh go gm G T) bh (nI i) T)))), (6, .int (nI T)), (4, .int (nI i)), (2, .int (lsL (biF (miF bh go gm G T) 8) (ymF bh go gm G T) i)), (3, .int (lsA (biF (miF bh go gm G T) 8) (ymF bh go gm G T) i)), (0, .ref z), (1, .int (miF bh go gm G T))]) hx hb dX12_ask_102 hl (by decide) rfl (fun ls hl => ?_)
          refine lv_iload hx hb dX12_ask_104 (lv_at hl 0 rfl) ?_
          refine lv_iload_n hx hb dX12_ask_106 rfl (lv_at hl 3 rfl) ?_
          refine lv_icmp_lt (tgt := 113) hx hb dX12_ask_107 (by decide) (fun c7 => ?_) (fun c7 => ?_)
          · have h3 : F_mx (ymF bh go gm G T i) ((biF (miF bh go gm G T) 8) - ymF bh go gm G T i) < (lsL (biF (miF bh go gm G T) 8) (ymF bh go gm G T) i) := c7
            refine lv_iload hx hb dX12_ask_113 (lv_at hl 0 rfl) ?_
            refine W.eq (g2 := F0 m 115 ls [.int (lsL (biF (miF bh go gm G T) 8) (ymF bh go gm G T) (i + 1))]) (congrArg (fun v => F0 m 115 ls [Value.int v]) (lsL_y h3).symm) ?_
            refine lv_istore_n (lv' := [(2, .int (lsL (biF (miF bh go gm G T) 8) (ymF bh go gm G T) (i + 1))), (5, .int (F_mx (anF (miF bh go gm G T) bh (nI i) T) ((biF (miF bh go gm G T) 8) - (anF (miF bh go gm G T) bh (nI i) T)))), (6, .int (nI T)), (4, .int (nI i)), (3, .int (lsA (biF (miF bh go gm G T) 8) (ymF bh go gm G T) i)), (0, .ref z), (1, .int (miF bh go gm G T))]) hx hb dX12_ask_115 rfl hl (by decide) rfl (fun ls hl => ?_)
            refine lv_iload hx hb dX12_ask_116 (lv_at hl 3 rfl) ?_
            refine W.eq (g2 := F0 m 118 ls [.int (lsA (biF (miF bh go gm G T) 8) (ymF bh go gm G T) (i + 1))]) (congrArg (fun v => F0 m 118 ls [Value.int v]) (lsA_y h3).symm) ?_
            refine lv_istore_n (lv' := [(3, .int (lsA (biF (miF bh go gm G T) 8) (ymF bh go gm G T) (i + 1))), (2, .int (lsL (biF (miF bh go gm G T) 8) (ymF bh go gm G T) (i + 1))), (5, .int (F_mx (anF (miF bh go gm G T) bh (nI i) T) ((biF (miF bh go gm G T) 8) - (anF (miF bh go gm G T) bh (nI i) T)))), (6, .int (nI T)), (4, .int (nI i)), (0, .ref z), (1, .int (miF bh go gm G T))]) hx hb dX12_ask_118 rfl hl (by decide) rfl (fun ls hl => ?_)
            refine lv_iinc (v := (nI (i + 1))) (lv' := [(4, .int (nI (i + 1))), (3, .int (lsA (biF (miF bh go gm G T) 8) (ymF bh go gm G T) (i + 1))), (2, .int (lsL (biF (miF bh go gm G T) 8) (ymF bh go gm G T) (i + 1))), (5, .int (F_mx (anF (miF bh go gm G T) bh (nI i) T) ((biF (miF bh go gm G T) 8) - (anF (miF bh go gm G T) bh (nI i) T)))), (6, .int (nI T)), (0, .ref z), (1, .int (miF bh go gm G T))]) hx hb dX12_ask_119 hl (k := 4) rfl (nI_1 i) (by decide) rfl (fun ls hl => ?_)
            refine lv_goto (tgt := 20) hx hb dX12_ask_122 (by decide) ?_
            exact ih (i + 1) (by omega) (by omega) _ _ (kW.sub hw [0, 1, 2, 3, 4, 5] rfl rfl) _ (lv_sub hl [0, 2, 1, 5, 6] rfl)
          · have h3 : ¬ F_mx (ymF bh go gm G T i) ((biF (miF bh go gm G T) 8) - ymF bh go gm G T i) < (lsL (biF (miF bh go gm G T) 8) (ymF bh go gm G T) i) := c7
            rw [lsL_n h3, lsA_n h3] at hl
            refine lv_goto (tgt := 119) hx hb dX12_ask_110 (by decide) ?_
            refine lv_iinc (v := (nI (i + 1))) (lv' := [(4, .int (nI (i + 1))), (5, .int (F_mx (anF (miF bh go gm G T) bh (nI i) T) ((biF (miF bh go gm G T) 8) - (anF (miF bh go gm G T) bh (nI i) T)))), (6, .int (nI T)), (2, .int (lsL (biF (miF bh go gm G T) 8) (ymF bh go gm G T) (i + 1))), (3, .int (lsA (biF (miF bh go gm G T) 8) (ymF bh go gm G T) (i + 1))), (0, .ref z), (1, .int (miF bh go gm G T))]) hx hb dX12_ask_119 hl (k := 2) rfl (nI_1 i) (by decide) rfl (fun ls hl => ?_)
            refine lv_goto (tgt := 20) hx hb dX12_ask_122 (by decide) ?_
            exact ih (i + 1) (by omega) (by omega) _ _ (kW.sub hw [0, 1, 2, 3, 4, 5] rfl rfl) _ (lv_sub hl [0, 3, 4, 5, 6] rfl)
        | succ q ih2 =>
          intro j hj ls hl
          refine lv_iload hx hb dX12_ask_37 (lv_at hl 0 rfl) ?_
          refine lv_aload_n hx hb dX12_ask_39 rfl (lv_at hl 5 rfl) ?_
          refine fg_RX12_13 hC hw 0 rfl rfl dX12_ask_40 ?_
          refine lv_iconst (v := 0) hx hb dX12_ask_43 (by decide) ?_
          refine k_iald hC hw 1 rfl (k_in0 (by decide)) dX12_ask_44 ?_
          refine lv_topi (fun x_79 ex_79 => ?_)
          obtain rfl : x_79 = (nI T) := (show x_79 = ab 0 from ex_79).trans h0
          refine lv_icmp_ge (tgt := 90) hx hb dX12_ask_45 (by decide) (fun h => absurd h (nI_ge (by omega) (by omega))) (fun _ => ?_)
          refine lv_iload hx hb dX12_ask_48 (lv_at hl 1 rfl) ?_
          refine lv_iload_n hx hb dX12_ask_50 rfl (lv_at hl 6 rfl) ?_
          refine lv_iload hx hb dX12_ask_51 (lv_at hl 0 rfl) ?_
          refine lv_ishr hx hb dX12_ask_53 ?_
          refine lv_iconst (v := 1) hx hb dX12_ask_54 (by decide) ?_
          refine lv_iand hx hb dX12_ask_55 ?_
          refine lv_iconst (v := 1) hx hb dX12_ask_56 (by decide) ?_
          refine lv_icmp_ne (tgt := 80) hx hb dX12_ask_57 (by decide) (fun c5 => ?_) (fun c5 => ?_)
          · refine lv_iconst (v := 0) hx hb dX12_ask_80 (by decide) ?_
            refine lv_iadd hx hb dX12_ask_81 ?_
            refine lv_topi (fun x_80 ex_80 => ?_)
            obtain rfl : x_80 = (anF (miF bh go gm G T) bh (nI i) (j + 1)) := ex_80.trans (anF_0 c5)
            refine lv_istore (lv' := [(5, .int (anF (miF bh go gm G T) bh (nI i) (j + 1))), (6, .int (nI j)), (4, .int (nI i)), (2, .int (lsL (biF (miF bh go gm G T) 8) (ymF bh go gm G T) i)), (3, .int (lsA (biF (miF bh go gm G T) 8) (ymF bh go gm G T) i)), (0, .ref z), (1, .int (miF bh go gm G T))]) hx hb dX12_ask_82 hl (by decide) rfl (fun ls hl => ?_)
            refine lv_iinc (v := (nI (j + 1))) (lv' := [(6, .int (nI (j + 1))), (5, .int (anF (miF bh go gm G T) bh (nI i) (j + 1))), (4, .int (nI i)), (2, .int (lsL (biF (miF bh go gm G T) 8) (ymF bh go gm G T) i)), (3, .int (lsA (biF (miF bh go gm G T) 8) (ymF bh go gm G T) i)), (0, .ref z), (1, .int (miF bh go gm G T))]) hx hb dX12_ask_84 hl (k := 1) rfl (nI_1 j) (by decide) rfl (fun ls hl => ?_)
            refine lv_goto (tgt := 37) hx hb dX12_ask_87 (by decide) ?_
            exact ih2 (j + 1) (by omega) _ (lv_sub hl [0, 1, 2, 3, 4, 5, 6] rfl)
          · refine lv_aload_n hx hb dX12_ask_60 rfl (lv_at hl 5 rfl) ?_
            refine fg_RX12_29 hC hw 0 rfl rfl dX12_ask_61 ?_
            refine lv_iload hx hb dX12_ask_64 (lv_at hl 0 rfl) ?_
            refine k_iald hC hw 2 rfl (vp_in_nI (by omega) (by decide)) dX12_ask_66 ?_
            refine lv_topi (fun x_81 ex_81 => ?_)
            obtain rfl : x_81 = bh j := (show x_81 = bh (nI j : Int32).toNatClampNeg from ex_81).trans (by rw [nI_clamp (by omega)])
            refine lv_iload hx hb dX12_ask_67 (lv_at hl 2 rfl) ?_
            refine lv_ishr hx hb dX12_ask_69 ?_
            refine lv_iconst (v := 1) hx hb dX12_ask_70 (by decide) ?_
            refine lv_iand hx hb dX12_ask_71 ?_
            refine lv_iconst (v := 1) hx hb dX12_ask_72 (by decide) ?_
            refine lv_icmp_ne (tgt := 80) hx hb dX12_ask_73 (by decide) (fun c6 => ?_) (fun c6 => ?_)
            · refine lv_iconst (v := 0) hx hb dX12_ask_80 (by decide) ?_
              refine lv_iadd hx hb dX12_ask_81 ?_
              refine lv_topi (fun x_82 ex_82 => ?_)
              obtain rfl : x_82 = (anF (miF bh go gm G T) bh (nI i) (j + 1)) := ex_82.trans (anF_10 c5 c6)
              refine lv_istore (lv' := [(5, .int (anF (miF bh go gm G T) bh (nI i) (j + 1))), (6, .int (nI j)), (4, .int (nI i)), (2, .int (lsL (biF (miF bh go gm G T) 8) (ymF bh go gm G T) i)), (3, .int (lsA (biF (miF bh go gm G T) 8) (ymF bh go gm G T) i)), (0, .ref z), (1, .int (miF bh go gm G T))]) hx hb dX12_ask_82 hl (by decide) rfl (fun ls hl => ?_)
              refine lv_iinc (v := (nI (j + 1))) (lv' := [(6, .int (nI (j + 1))), (5, .int (anF (miF bh go gm G T) bh (nI i) (j + 1))), (4, .int (nI i)), (2, .int (lsL (biF (miF bh go gm G T) 8) (ymF bh go gm G T) i)), (3, .int (lsA (biF (miF bh go gm G T) 8) (ymF bh go gm G T) i)), (0, .ref z), (1, .int (miF bh go gm G T))]) hx hb dX12_ask_84 hl (k := 1) rfl (nI_1 j) (by decide) rfl (fun ls hl => ?_)
              refine lv_goto (tgt := 37) hx hb dX12_ask_87 (by decide) ?_
              exact ih2 (j + 1) (by omega) _ (lv_sub hl [0, 1, 2, 3, 4, 5, 6] rfl)
            · refine lv_iconst (v := 1) hx hb dX12_ask_76 (by decide) ?_
              refine lv_goto (tgt := 81) hx hb dX12_ask_77 (by decide) ?_
              refine lv_iadd hx hb dX12_ask_81 ?_
              refine lv_topi (fun x_83 ex_83 => ?_)
              obtain rfl : x_83 = (anF (miF bh go gm G T) bh (nI i) (j + 1)) := ex_83.trans (anF_11 c5 c6)
              refine lv_istore (lv' := [(5, .int (anF (miF bh go gm G T) bh (nI i) (j + 1))), (6, .int (nI j)), (4, .int (nI i)), (2, .int (lsL (biF (miF bh go gm G T) 8) (ymF bh go gm G T) i)), (3, .int (lsA (biF (miF bh go gm G T) 8) (ymF bh go gm G T) i)), (0, .ref z), (1, .int (miF bh go gm G T))]) hx hb dX12_ask_82 hl (by decide) rfl (fun ls hl => ?_)
              refine lv_iinc (v := (nI (j + 1))) (lv' := [(6, .int (nI (j + 1))), (5, .int (anF (miF bh go gm G T) bh (nI i) (j + 1))), (4, .int (nI i)), (2, .int (lsL (biF (miF bh go gm G T) 8) (ymF bh go gm G T) i)), (3, .int (lsA (biF (miF bh go gm G T) 8) (ymF bh go gm G T) i)), (0, .ref z), (1, .int (miF bh go gm G T))]) hx hb dX12_ask_84 hl (k := 1) rfl (nI_1 j) (by decide) rfl (fun ls hl => ?_)
              refine lv_goto (tgt := 37) hx hb dX12_ask_87 (by decide) ?_
              exact ih2 (j + 1) (by omega) _ (lv_sub hl [0, 1, 2, 3, 4, 5, 6] rfl)
      exact hin T 0 (by omega) _ (lv_sub hl [0, 1, 2, 3, 4, 5, 6] rfl)

set_option maxHeartbeats 4000000 in
set_option maxRecDepth 100000 in
theorem c_X12_ask (γ : kΓ) (l : Launch) (z : Nat) (z2 : Nat) (z10 : Nat) (z11 : Nat) (z12 : Nat) (z13 : Nat) (z14 : Nat) (z15 : Nat) (z16 : Nat) (z17 : Nat) (z18 : Nat) (z19 : Nat) (z22 : Nat) (z23 : Nat) (z24 : Nat) (z25 : Nat) (z26 : Nat) (z27 : Nat) (z28 : Nat) (z29 : Nat) (z30 : Nat) (z31 : Nat) (z32 : Nat) (z33 : Nat) (z36 : Nat) (z37 : Nat) (z38 : Nat) (z39 : Nat) (z40 : Nat) (z41 : Nat) (z42 : Nat) (z43 : Nat) (z44 : Nat) (z45 : Nat) (z46 : Nat) (z47 : Nat) (z48 : Nat) (z55 : Nat) (z56 : Nat) (z59 : Nat) (z60 : Nat) (z61 : Nat) (n0 : Int32) (n1 : Int32) (n3 : Int32) (n4 : Int32) (n5 : Int32) (n6 : Int32) (n7 : Int64) (n8 : Int32) (n9 : Int32) (n20 : Int32) (n21 : Int32) (n34 : Int32) (n35 : Int64) (n49 : Int32) (n50 : Int32) (n51 : Int32) (n52 : Int32) (n53 : Int32) (n54 : Int32) (n57 : Int32) (n58 : Int32) (n62 : Int32) (n63 : Int64) (ab : Nat → Int32) (bh : Nat → Int32) (gs : Nat → Int32) (go : Nat → Int32) (gm : Nat → Int32) (T : Nat) (G : Nat) (h0 : ab 0 = nI T) (hg0 : gs 0 = nI G) (hT : T ≤ 8) (hG : G ≤ 8) : kM γ l yX12_ask cX12_ask 7 ((some .int)) ({ frames := 1, cells := 0, slots := 0, locals := 24 } : Room) [.ref z] [(z, .inr (11, [.int n0, .int n1, .ref z2, .int n3, .int n4, .int n5, .int n6, .long n7, .int n8, .int n9, .ref z10, .ref z11, .ref z12, .ref z13, .ref z14, .ref z15, .ref z16, .ref z17, .ref z18, .ref z19, .int n20, .int n21, .ref z22, .ref z23, .ref z24, .ref z25, .ref z26, .ref z27, .ref z28, .ref z29, .ref z30, .ref z31, .ref z32, .ref z33, .int n34, .long n35, .ref z36, .ref z37, .ref z38, .ref z39, .ref z40, .ref z41, .ref z42, .ref z43, .ref z44, .ref z45, .ref z46, .ref z47, .ref z48, .int n49, .int n50, .int n51, .int n52, .int n53, .int n54, .ref z55, .ref z56, .int n57, .int n58, .ref z59, .ref z60, .ref z61, .int n62, .long n63])), (z10, .inl (γ.2.1 0, 10, .inl ab)), (z15, .inl (γ.2.1 0, 16, .inl bh)), (z40, .inl (γ.2.1 0, 5, .inl gs)), (z41, .inl (γ.2.1 0, 40, .inl go)), (z42, .inl (γ.2.1 3, 40, .inl gm))] (fun r w1 => r = some (.int (asM bh go gm G T)) ∧ w1 = [(z, .inr (11, [.int 0, .int n1, .ref z2, .int n3, .int n4, .int n5, .int n6, .long n7, .int n8, .int n9, .ref z10, .ref z11, .ref z12, .ref z13, .ref z14, .ref z15, .ref z16, .ref z17, .ref z18, .ref z19, .int n20, .int n21, .ref z22, .ref z23, .ref z24, .ref z25, .ref z26, .ref z27, .ref z28, .ref z29, .ref z30, .ref z31, .ref z32, .ref z33, .int n34, .long n35, .ref z36, .ref z37, .ref z38, .ref z39, .ref z40, .ref z41, .ref z42, .ref z43, .ref z44, .ref z45, .ref z46, .ref z47, .ref z48, .int n49, .int n50, .int n51, .int n52, .int n53, .int n54, .ref z55, .ref z56, .int n57, .int n58, .ref z59, .ref z60, .ref z61, .int n62, .long n63])), (z10, .inl (γ.2.1 0, 10, .inl ab)), (z15, .inl (γ.2.1 0, 16, .inl bh)), (z40, .inl (γ.2.1 0, 5, .inl gs)), (z41, .inl (γ.2.1 0, 40, .inl go)), (z42, .inl (γ.2.1 3, 40, .inl gm))]) := by
  refine k_ofW (by decide) (Nat.le_of_ble_eq_true rfl) ?_
  intro p9 e s m below meth c A ls hC hr hlocks hname hw hl
  have hx := hC.1
  have hb := hC.2.1
  have hl : lv_has ls 7 [(0, .ref z)] := hl
  refine lv_aload_n hx hb dX12_ask_0 rfl (lv_at hl 0 rfl) ?_
  refine lv_iconst (v := 0) hx hb dX12_ask_1 (by decide) ?_
  refine fs_RX12_143 hC hw 0 rfl rfl rfl (Nat.le_of_ble_eq_true rfl) dX12_ask_2 (fun H locs hw => ?_)
  have hw : kW γ A [(z, .inr (11, [.int 0, .int n1, .ref z2, .int n3, .int n4, .int n5, .int n6, .long n7, .int n8, .int n9, .ref z10, .ref z11, .ref z12, .ref z13, .ref z14, .ref z15, .ref z16, .ref z17, .ref z18, .ref z19, .int n20, .int n21, .ref z22, .ref z23, .ref z24, .ref z25, .ref z26, .ref z27, .ref z28, .ref z29, .ref z30, .ref z31, .ref z32, .ref z33, .int n34, .long n35, .ref z36, .ref z37, .ref z38, .ref z39, .ref z40, .ref z41, .ref z42, .ref z43, .ref z44, .ref z45, .ref z46, .ref z47, .ref z48, .int n49, .int n50, .int n51, .int n52, .int n53, .int n54, .ref z55, .ref z56, .int n57, .int n58, .ref z59, .ref z60, .ref z61, .int n62, .long n63])), (z10, .inl (γ.2.1 0, 10, .inl ab)), (z15, .inl (γ.2.1 0, 16, .inl bh)), (z40, .inl (γ.2.1 0, 5, .inl gs)), (z41, .inl (γ.2.1 0, 40, .inl go)), (z42, .inl (γ.2.1 3, 40, .inl gm))] s H locs := hw
  refine lv_aload_n hx hb dX12_ask_5 rfl (lv_at hl 0 rfl) ?_
  refine k_V (wr := []) 0 gw_1760 gw_1762 gp_109 gw_15 gw_1763 hd_X12_fitting hC hw (c_X12_fitting γ l z z2 z10 z11 z12 z13 z14 z15 z16 z17 z18 z19 z22 z23 z24 z25 z26 z27 z28 z29 z30 z31 z32 z33 z36 z37 z38 z39 z40 z41 z42 z43 z44 z45 z46 z47 z48 z55 z56 z59 z60 z61 0 n1 n3 n4 n5 n6 n7 n8 n9 n20 n21 n34 n35 n49 n50 n51 n52 n53 n54 n57 n58 n62 n63 ab bh gs go gm T G h0 hg0 hT hG) ⟨by decide, by decide⟩ ⟨by decide, by decide⟩ hl.1 rfl 0 rfl rfl rfl (Nat.le_of_ble_eq_true rfl) [0, 1, 2, 3, 4, 5] [] rfl rfl rfl rfl (by decide) dX12_ask_6 (fun r w1 H locs hq hw => ?_)
  obtain ⟨rfl, rfl⟩ := hq
  have hw : kW γ A [(z, .inr (11, [.int 0, .int n1, .ref z2, .int n3, .int n4, .int n5, .int n6, .long n7, .int n8, .int n9, .ref z10, .ref z11, .ref z12, .ref z13, .ref z14, .ref z15, .ref z16, .ref z17, .ref z18, .ref z19, .int n20, .int n21, .ref z22, .ref z23, .ref z24, .ref z25, .ref z26, .ref z27, .ref z28, .ref z29, .ref z30, .ref z31, .ref z32, .ref z33, .int n34, .long n35, .ref z36, .ref z37, .ref z38, .ref z39, .ref z40, .ref z41, .ref z42, .ref z43, .ref z44, .ref z45, .ref z46, .ref z47, .ref z48, .int n49, .int n50, .int n51, .int n52, .int n53, .int n54, .ref z55, .ref z56, .int n57, .int n58, .ref z59, .ref z60, .ref z61, .int n62, .long n63])), (z10, .inl (γ.2.1 0, 10, .inl ab)), (z15, .inl (γ.2.1 0, 16, .inl bh)), (z40, .inl (γ.2.1 0, 5, .inl gs)), (z41, .inl (γ.2.1 0, 40, .inl go)), (z42, .inl (γ.2.1 3, 40, .inl gm))] s H locs := hw
  refine W.eq (g2 := F0 m 9 ls [.int (miF bh go gm G T)]) rfl ?_
  refine lv_istore_n (lv' := [(1, .int (miF bh go gm G T)), (0, .ref z)]) hx hb dX12_ask_9 rfl hl (by decide) rfl (fun ls hl => ?_)
  refine lv_iload_n hx hb dX12_ask_10 rfl (lv_at hl 0 rfl) ?_
  refine k_S (wr := [(z, .inr (11, [.int 0, .int n1, .ref z2, .int n3, .int n4, .int n5, .int n6, .long n7, .int n8, .int n9, .ref z10, .ref z11, .ref z12, .ref z13, .ref z14, .ref z15, .ref z16, .ref z17, .ref z18, .ref z19, .int n20, .int n21, .ref z22, .ref z23, .ref z24, .ref z25, .ref z26, .ref z27, .ref z28, .ref z29, .ref z30, .ref z31, .ref z32, .ref z33, .int n34, .long n35, .ref z36, .ref z37, .ref z38, .ref z39, .ref z40, .ref z41, .ref z42, .ref z43, .ref z44, .ref z45, .ref z46, .ref z47, .ref z48, .int n49, .int n50, .int n51, .int n52, .int n53, .int n54, .ref z55, .ref z56, .int n57, .int n58, .ref z59, .ref z60, .ref z61, .int n62, .long n63])), (z10, .inl (γ.2.1 0, 10, .inl ab)), (z15, .inl (γ.2.1 0, 16, .inl bh)), (z40, .inl (γ.2.1 0, 5, .inl gs)), (z41, .inl (γ.2.1 0, 40, .inl go)), (z42, .inl (γ.2.1 3, 40, .inl gm))]) 1 gw_1701 gw_1702 gw_15 gw_1703 hd_X12_bits hC hw (c_X12_bits γ l (miF bh go gm G T)) ⟨by decide, by decide⟩ ⟨by decide, by decide⟩ hl.1 rfl rfl (Nat.le_of_ble_eq_true rfl) [] [0, 1, 2, 3, 4, 5] rfl rfl rfl rfl (by decide) dX12_ask_11 (fun r w1 H locs hq hw => ?_)
  obtain ⟨rfl, rfl⟩ := hq
  have hw : kW γ A [(z, .inr (11, [.int 0, .int n1, .ref z2, .int n3, .int n4, .int n5, .int n6, .long n7, .int n8, .int n9, .ref z10, .ref z11, .ref z12, .ref z13, .ref z14, .ref z15, .ref z16, .ref z17, .ref z18, .ref z19, .int n20, .int n21, .ref z22, .ref z23, .ref z24, .ref z25, .ref z26, .ref z27, .ref z28, .ref z29, .ref z30, .ref z31, .ref z32, .ref z33, .int n34, .long n35, .ref z36, .ref z37, .ref z38, .ref z39, .ref z40, .ref z41, .ref z42, .ref z43, .ref z44, .ref z45, .ref z46, .ref z47, .ref z48, .int n49, .int n50, .int n51, .int n52, .int n53, .int n54, .ref z55, .ref z56, .int n57, .int n58, .ref z59, .ref z60, .ref z61, .int n62, .long n63])), (z10, .inl (γ.2.1 0, 10, .inl ab)), (z15, .inl (γ.2.1 0, 16, .inl bh)), (z40, .inl (γ.2.1 0, 5, .inl gs)), (z41, .inl (γ.2.1 0, 40, .inl go)), (z42, .inl (γ.2.1 3, 40, .inl gm))] s H locs := hw
  refine W.eq (g2 := F0 m 14 ls [.int (biF (miF bh go gm G T) 8)]) rfl ?_
  refine lv_istore_n (lv' := [(2, .int (biF (miF bh go gm G T) 8)), (1, .int (miF bh go gm G T)), (0, .ref z)]) hx hb dX12_ask_14 rfl hl (by decide) rfl (fun ls hl => ?_)
  refine lv_iconst (v := (-1)) hx hb dX12_ask_15 (by decide) ?_
  refine lv_istore_n (lv' := [(3, .int (-1)), (2, .int (biF (miF bh go gm G T) 8)), (1, .int (miF bh go gm G T)), (0, .ref z)]) hx hb dX12_ask_16 rfl hl (by decide) rfl (fun ls hl => ?_)
  refine lv_iconst (v := 0) hx hb dX12_ask_17 (by decide) ?_
  refine lv_istore (lv' := [(4, .int 0), (3, .int (-1)), (2, .int (biF (miF bh go gm G T) 8)), (1, .int (miF bh go gm G T)), (0, .ref z)]) hx hb dX12_ask_18 hl (by decide) rfl (fun ls hl => ?_)
  exact lp_X12_ask z z2 z10 z11 z12 z13 z14 z15 z16 z17 z18 z19 z22 z23 z24 z25 z26 z27 z28 z29 z30 z31 z32 z33 z36 z37 z38 z39 z40 z41 z42 z43 z44 z45 z46 z47 z48 z55 z56 z59 z60 z61 n0 n1 n3 n4 n5 n6 n7 n8 n9 n20 n21 n34 n35 n49 n50 n51 n52 n53 n54 n57 n58 n62 n63 ab bh gs go gm T G h0 hg0 hT hG hC hr hlocks (T + 1) 0 (by omega) (Nat.zero_le T) _ _ (kW.sub hw [0, 1, 2, 3, 4, 5] rfl rfl) _ (lv_sub hl [0, 2, 1, 4, 3] rfl)


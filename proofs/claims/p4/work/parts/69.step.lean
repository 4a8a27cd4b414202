/-! one step -/
def qif (b : Bool) (o : Option qSu) : Option qSu := if b then o else none
theorem q_if {b : Bool} {o : Option qSu} {L : qSu} (h : qif b o = some L) : b = true ∧ o = some L := by
  cases b with
  | true => exact ⟨rfl, h⟩
  | false => cases h
def qor2 (a b : Option qSu) : Option qSu := match a with
  | some L => some L
  | none => b
theorem q_or2 {a b : Option qSu} {L : qSu} (h : qor2 a b = some L) : a = some L ∨ b = some L := by
  cases a with
  | some x => exact .inl h
  | none => exact .inr h
def qcst (cs : List (Nat × Bool × Int)) (j : Nat) (f : Nat × Bool × Int → Bool) (k : Int → Option qSu) : Option qSu := match cs.find? (fun q => q.1 == j && f q) with
  | some q => k q.2.2
  | none => none
theorem q_cns {cs : List (Nat × Bool × Int)} {j : Nat} {f : Nat × Bool × Int → Bool} {k : Int → Option qSu} {L : qSu} (h : qcst cs j f k = some L) : ∃ q ∈ cs, q.1 = j ∧ f q = true ∧ k q.2.2 = some L := by
  unfold qcst at h
  split at h
  · rename_i q hq
    have h1 := List.find?_some hq
    simp only [Bool.and_eq_true, beq_iff_eq] at h1
    exact ⟨q, List.mem_of_find?_eq_some hq, h1.1, h1.2, h⟩
  · cases h
theorem q_cmp (y z : Int64) : qIn (-1, 1) (lg_cmp y z).toInt := by
  unfold lg_cmp
  repeat' split
  all_goals exact ⟨by decide, by decide⟩
theorem q_fin2 : ∀ n : Fin 2, (Int64.ofNat (n : Nat)).toInt = ((n : Nat) : Int) := by decide
theorem q_c0 {x y : Int32} (h : x = y) : qcnd 0 x.toInt y.toInt := by rw [h]; rfl
theorem q_c1 {x y : Int32} (h : ¬ x = y) : qcnd 1 x.toInt y.toInt := fun e => h (Int32.toInt_inj.mp e)
theorem q_c2 {x y : Int32} (h : x < y) : qcnd 2 x.toInt y.toInt := Int32.lt_iff_toInt_lt.mp h
theorem q_c3 {x y : Int32} (h : ¬ x < y) : qcnd 3 x.toInt y.toInt := fun e => h (Int32.lt_iff_toInt_lt.mpr e)
theorem q_c3b {x y : Int32} (h : y ≤ x) : qcnd 3 x.toInt y.toInt := fun e => by have := Int32.le_iff_toInt_le.mp h; omega
theorem q_c2b {x y : Int32} (h : ¬ y ≤ x) : qcnd 2 x.toInt y.toInt := by
  have : ¬ y.toInt ≤ x.toInt := fun e => h (Int32.le_iff_toInt_le.mpr e)
  show x.toInt < y.toInt
  omega
theorem q_c4 {x y : Int32} (h : y < x) : qcnd 4 x.toInt y.toInt := Int32.lt_iff_toInt_lt.mp h
theorem q_c5 {x y : Int32} (h : ¬ y < x) : qcnd 5 x.toInt y.toInt := fun e => h (Int32.lt_iff_toInt_lt.mpr e)
theorem q_c5b {x y : Int32} (h : x ≤ y) : qcnd 5 x.toInt y.toInt := fun e => by have := Int32.le_iff_toInt_le.mp h; omega
theorem q_c4b {x y : Int32} (h : ¬ x ≤ y) : qcnd 4 x.toInt y.toInt := by
  have : ¬ x.toInt ≤ y.toInt := fun e => h (Int32.le_iff_toInt_le.mpr e)
  show y.toInt < x.toInt
  omega
/-- a class's own rows: fields, calls, numbers, words, words' fields, copies -/
abbrev qTb : Type := List qFd × List qCl × List (Nat × Bool × Int) × List Nat × List (Nat × Nat) × List Nat × List (Nat × Bool)
def qTbk (own : String) (MT : List qMt) (tb : qTb) : Prop :=
  (∀ f ∈ tb.1, qft own f) ∧ (∀ k ∈ tb.2.1, qlk4 own MT k) ∧ (∀ q ∈ tb.2.2.1, (q.2.1 = false → ∃ v : Int32, v.toInt = q.2.2 ∧ Cond.constant own q.1 v ∈ kG) ∧ (q.2.1 = true → ∃ v : Int64, v.toInt = q.2.2 ∧ Cond.constantLong own q.1 v ∈ kG)) ∧
  (∀ i ∈ tb.2.2.2.1, qstk own i) ∧ (∀ f ∈ tb.2.2.2.2.1, qwfk own f) ∧ (∀ i ∈ tb.2.2.2.2.2.1, Cond.methodLink own i arraycopyName ∈ kG) ∧ (∀ q ∈ tb.2.2.2.2.2.2, qmmk own q)
def qstep (D : qWd) (ms : qMods) (xr : List Nat) (tb : qTb) (MT : List qMt) (B : List qCon) (fr lc nL : Nat) (S : AS) (pc : Nat) (i : Instr) (len : Nat) : Option qSu :=
  match i with
  | .iload_n k => qif (len == 1) (qs_ld (fun t => Nat.ble t 1) S k pc 1)
  | .iload k => qif (len == 2) (qs_ld (fun t => Nat.ble t 1) S k pc 2)
  | .aload_n k => qif (len == 1) (qs_ld (fun t => t == 3) S k pc 1)
  | .aload k => qif (len == 2) (qs_ld (fun t => t == 3) S k pc 2)
  | .lload_n k => qif (len == 1) (qs_ld (fun t => t == 2) S k pc 1)
  | .lload k => qif (len == 2) (qs_ld (fun t => t == 2) S k pc 2)
  | .istore_n k => qif (len == 1) (qs_st (fun t => Nat.ble t 1) S nL k pc 1)
  | .istore k => qif (len == 2) (qs_st (fun t => Nat.ble t 1) S nL k pc 2)
  | .astore_n k => qif (len == 1) (qs_st (fun t => t == 3) S nL k pc 1)
  | .astore k => qif (len == 2) (qs_st (fun t => t == 3) S nL k pc 2)
  | .lstore_n k => qif (len == 1) (qs_sl S nL k pc 1)
  | .lstore k => qif (len == 2) (qs_sl S nL k pc 2)
  | .iconst n => qif (len == 1) (qif (qle (-1) n && qle n 5) (qs_c S n pc 1))
  | .bipush n => qif (len == 2) (qif (qle (-128) n && qle n 127) (qs_c S n pc 2))
  | .sipush n => qif (len == 3) (qif (qle (-32768) n && qle n 32767) (qs_c S n pc 3))
  | .lconst n => qif (len == 1) (qs_cl S (n : Nat) pc 1)
  | .ldc j => qif (len == 2) (qcst tb.2.2.1 j (fun q => !q.2.1) (fun n => qs_c S n pc 2))
  | .ldc_w j => qif (len == 3) (qcst tb.2.2.1 j (fun q => !q.2.1) (fun n => qs_c S n pc 3))
  | .ldc2_w j => qif (len == 3) (qcst tb.2.2.1 j (fun q => q.2.1) (fun n => qs_cl S n pc 3))
  | .iadd => qif (len == 1) (qs_bin 0 S pc)
  | .isub => qif (len == 1) (qs_bin 1 S pc)
  | .imul => qif (len == 1) (qs_bin 2 S pc)
  | .iand => qif (len == 1) (qs_bin 3 S pc)
  | .ior => qif (len == 1) (qs_bin 4 S pc)
  | .ixor => qif (len == 1) (qs_bin 5 S pc)
  | .ishl => qif (len == 1) (qs_bin 6 S pc)
  | .ishr => qif (len == 1) (qs_bin 7 S pc)
  | .iushr => qif (len == 1) (qs_bin 8 S pc)
  | .idiv => qif (len == 1) (qs_bin 9 S pc)
  | .irem => qif (len == 1) (qs_bin 10 S pc)
  | .ineg => qif (len == 1) (qs_un qu_neg S pc)
  | .i2b => qif (len == 1) (qs_un qu_i2b S pc)
  | .i2l => qif (len == 1) (qs_un qu_i2l S pc)
  | .l2i => qif (len == 1) (qs_un qu_l2i S pc)
  | .ladd => qif (len == 1) (qs_binL 0 S pc)
  | .lmul => qif (len == 1) (qs_binL 1 S pc)
  | .land => qif (len == 1) (qs_binL 4 S pc)
  | .lor => qif (len == 1) (qs_binL 5 S pc)
  | .lsub => qif (len == 1) (qs_binL 6 S pc)
  | .ldiv => qif (len == 1) (qs_binL 2 S pc)
  | .lrem => qif (len == 1) (qs_binL 3 S pc)
  | .lcmp => qif (len == 1) (qs_binL 7 S pc)
  | .lshl => qif (len == 1) (qs_shL S pc)
  | .lushr => qif (len == 1) (qs_shL S pc)
  | .iinc j n => qif (len == 3) (qs_inc S nL j n pc)
  | .dup => qif (len == 1) (qs_dup S pc)
  | .dup2 => qif (len == 1) (qs_dup2 S pc)
  | .pop => qif (len == 1) (qs_pop S pc)
  | .goto off => qif (len == 3) (qs_goto S off pc)
  | .ifCond .eq off => qif (len == 3) (qs_if 0 S off pc)
  | .if_icmp .eq off => qif (len == 3) (qs_icmp 0 S off pc)
  | .ifCond .ne off => qif (len == 3) (qs_if 1 S off pc)
  | .if_icmp .ne off => qif (len == 3) (qs_icmp 1 S off pc)
  | .ifCond .lt off => qif (len == 3) (qs_if 2 S off pc)
  | .if_icmp .lt off => qif (len == 3) (qs_icmp 2 S off pc)
  | .ifCond .ge off => qif (len == 3) (qs_if 3 S off pc)
  | .if_icmp .ge off => qif (len == 3) (qs_icmp 3 S off pc)
  | .ifCond .gt off => qif (len == 3) (qs_if 4 S off pc)
  | .if_icmp .gt off => qif (len == 3) (qs_icmp 4 S off pc)
  | .ifCond .le off => qif (len == 3) (qs_if 5 S off pc)
  | .if_icmp .le off => qif (len == 3) (qs_icmp 5 S off pc)
  | .if_acmp .eq off => qif (len == 3) (qs_acmp S off pc)
  | .if_acmp .ne off => qif (len == 3) (qs_acmp S off pc)
  | .getfield j => qif (len == 3) (qor2 (qs_get D tb.1 S j pc) (qs_getw D tb.2.2.2.2.1 S j pc))
  | .putfield j => qif (len == 3) (qs_put D ms xr tb.1 S j pc)
  | .iaload => qif (len == 1) (qs_ald D 0 (fun k => k == 0) S pc)
  | .baload => qif (len == 1) (qs_ald D 0 (fun k => k == 2 || k == 3) S pc)
  | .laload => qif (len == 1) (qs_ald D 1 (fun k => k == 1) S pc)
  | .aaload => qif (len == 1) (qs_ald D 2 (fun k => k == 4 || k == 5) S pc)
  | .iastore => qif (len == 1) (qs_ast D ms xr (fun k => k == 0) S pc)
  | .bastore => qif (len == 1) (qs_ast D ms xr (fun k => k == 2 || k == 3) S pc)
  | .lastore => qif (len == 1) (qs_ast D ms xr (fun k => k == 1) S pc)
  | .arraylength => qif (len == 1) (qs_len D S pc)
  | .getstatic j => qif (len == 3) (qs_gs D tb.2.2.2.1 S j pc)
  | .invokevirtual j => qif (len == 3) (qs_call D ms B tb.2.1 MT fr lc true S j pc)
  | .invokestatic j => qif (len == 3) (qor2 (qs_cpy D ms xr tb.2.2.2.2.2.1 fr lc S j pc) (qor2 (qs_mm tb.2.2.2.2.2.2 fr lc S j pc) (qs_call D ms B tb.2.1 MT fr lc false S j pc)))
  | .tableswitch d lo hi offs => qs_tsw S d lo hi offs.toList pc
  | .lookupswitch d ps => qs_lsw S d ps.toList pc
  | _ => none
theorem q_step {x : qCx} (hB : qB x) {D : qWd} (eD : qxD x = D) (hD : qD D) {ms : qMods} (ems : qxms x = ms) {xr : List Nat} (hX : qxok x xr) {MT : List qMt} {tb : qTb} (htb : qTbk (qxown x) MT tb) {B : List qCon} (hcon : ∀ c ∈ B, qSem x.1 x.2.2.1 D x.2.2.2.2.2.2.2.2.2.2.2.2.2.2.2.2.1 MT c) {fr lc nL : Nat} (hR : fr ≤ x.2.2.2.2.1.frames ∧ lc ≤ x.2.2.2.2.1.locals) (hnL : qxnL x = nL)
    {S : AS} {pc : Nat} {i : Instr} {len : Nat} {L : qSu} (hs : qstep D ms xr tb MT B fr lc nL S pc i len = some L) (hdc : qdc x pc (i, len)) (h : qOk x L) : qG x S pc := by
  unfold qstep at hs
  split at hs
  · rename_i k
    obtain ⟨hlen, hs2⟩ := q_if hs
    clear hs
    simp only [beq_iff_eq] at hlen
    subst hlen
    have hs := hs2
    clear hs2
    exact qs_ldI hB hs (.inl ⟨k, rfl, hdc, rfl⟩) h
  · rename_i k
    obtain ⟨hlen, hs2⟩ := q_if hs
    clear hs
    simp only [beq_iff_eq] at hlen
    subst hlen
    have hs := hs2
    clear hs2
    exact qs_ldI hB hs (.inr ⟨hdc, rfl⟩) h
  · rename_i k
    obtain ⟨hlen, hs2⟩ := q_if hs
    clear hs
    simp only [beq_iff_eq] at hlen
    subst hlen
    have hs := hs2
    clear hs2
    exact qs_ldA hB hs (.inl ⟨k, rfl, hdc, rfl⟩) h
  · rename_i k
    obtain ⟨hlen, hs2⟩ := q_if hs
    clear hs
    simp only [beq_iff_eq] at hlen
    subst hlen
    have hs := hs2
    clear hs2
    exact qs_ldA hB hs (.inr ⟨hdc, rfl⟩) h
  · rename_i k
    obtain ⟨hlen, hs2⟩ := q_if hs
    clear hs
    simp only [beq_iff_eq] at hlen
    subst hlen
    have hs := hs2
    clear hs2
    exact qs_ldL hB hs (.inl ⟨k, rfl, hdc, rfl⟩) h
  · rename_i k
    obtain ⟨hlen, hs2⟩ := q_if hs
    clear hs
    simp only [beq_iff_eq] at hlen
    subst hlen
    have hs := hs2
    clear hs2
    exact qs_ldL hB hs (.inr ⟨hdc, rfl⟩) h
  · rename_i k
    obtain ⟨hlen, hs2⟩ := q_if hs
    clear hs
    simp only [beq_iff_eq] at hlen
    subst hlen
    have hs := hs2
    clear hs2
    exact qs_stI hB hnL hs (.inl ⟨k, rfl, hdc, rfl⟩) h
  · rename_i k
    obtain ⟨hlen, hs2⟩ := q_if hs
    clear hs
    simp only [beq_iff_eq] at hlen
    subst hlen
    have hs := hs2
    clear hs2
    exact qs_stI hB hnL hs (.inr ⟨hdc, rfl⟩) h
  · rename_i k
    obtain ⟨hlen, hs2⟩ := q_if hs
    clear hs
    simp only [beq_iff_eq] at hlen
    subst hlen
    have hs := hs2
    clear hs2
    exact qs_stA hB hnL hs (.inl ⟨k, rfl, hdc, rfl⟩) h
  · rename_i k
    obtain ⟨hlen, hs2⟩ := q_if hs
    clear hs
    simp only [beq_iff_eq] at hlen
    subst hlen
    have hs := hs2
    clear hs2
    exact qs_stA hB hnL hs (.inr ⟨hdc, rfl⟩) h
  · rename_i k
    obtain ⟨hlen, hs2⟩ := q_if hs
    clear hs
    simp only [beq_iff_eq] at hlen
    subst hlen
    have hs := hs2
    clear hs2
    exact qs_stL hB hnL hs (.inl ⟨k, rfl, hdc, rfl⟩) h
  · rename_i k
    obtain ⟨hlen, hs2⟩ := q_if hs
    clear hs
    simp only [beq_iff_eq] at hlen
    subst hlen
    have hs := hs2
    clear hs2
    exact qs_stL hB hnL hs (.inr ⟨hdc, rfl⟩) h
  · rename_i n
    obtain ⟨hlen, hs2⟩ := q_if hs
    clear hs
    simp only [beq_iff_eq] at hlen
    subst hlen
    have hs := hs2
    clear hs2
    obtain ⟨hn, hs⟩ := q_if hs
    simp only [Bool.and_eq_true, qle, decide_eq_true_eq] at hn
    exact qs_cI hs (v := Int32.ofInt n) (by rw [Int32.toInt_ofInt]; exact q_bmod (by unfold i32lo; omega) (by unfold i32hi; omega)) (fun H locs ls st hk => by
      obtain ⟨γ, p, l, e, R, s, m, args, below, meth, c, Q, ⟨cc, nL', own⟩, A, D, adr, X, ms, w0, σe⟩ := x
      exact lv_iconst hB.1 hB.2.1 hdc rfl hk) h
  · rename_i n
    obtain ⟨hlen, hs2⟩ := q_if hs
    clear hs
    simp only [beq_iff_eq] at hlen
    subst hlen
    have hs := hs2
    clear hs2
    obtain ⟨hn, hs⟩ := q_if hs
    simp only [Bool.and_eq_true, qle, decide_eq_true_eq] at hn
    exact qs_cI hs (v := (Int8.ofInt n).toInt32) (by rw [Int8.toInt_toInt32, Int8.toInt_ofInt]; exact Int.bmod_eq_of_le (by unfold Int8.size; omega) (by unfold Int8.size; omega)) (fun H locs ls st hk => by
      obtain ⟨γ, p, l, e, R, s, m, args, below, meth, c, Q, ⟨cc, nL', own⟩, A, D, adr, X, ms, w0, σe⟩ := x
      exact lv_bipush hB.1 hB.2.1 hdc rfl hk) h
  · rename_i n
    obtain ⟨hlen, hs2⟩ := q_if hs
    clear hs
    simp only [beq_iff_eq] at hlen
    subst hlen
    have hs := hs2
    clear hs2
    obtain ⟨hn, hs⟩ := q_if hs
    simp only [Bool.and_eq_true, qle, decide_eq_true_eq] at hn
    exact qs_cI hs (v := (Int16.ofInt n).toInt32) (by rw [Int16.toInt_toInt32, Int16.toInt_ofInt]; exact Int.bmod_eq_of_le (by unfold Int16.size; omega) (by unfold Int16.size; omega)) (fun H locs ls st hk => by
      obtain ⟨γ, p, l, e, R, s, m, args, below, meth, c, Q, ⟨cc, nL', own⟩, A, D, adr, X, ms, w0, σe⟩ := x
      exact lv_sipush hB.1 hB.2.1 hdc rfl hk) h
  · rename_i n
    obtain ⟨hlen, hs2⟩ := q_if hs
    clear hs
    simp only [beq_iff_eq] at hlen
    subst hlen
    have hs := hs2
    clear hs2
    exact qs_cL hs (v := Int64.ofNat (n : Nat)) (q_fin2 n) (fun H locs ls st hk => by
      obtain ⟨γ, p, l, e, R, s, m, args, below, meth, c, Q, ⟨cc, nL', own⟩, A, D, adr, X, ms, w0, σe⟩ := x
      exact lv_lconst hB.1 hB.2.1 hdc rfl hk) h
  · rename_i j
    obtain ⟨hlen, hs2⟩ := q_if hs
    clear hs
    simp only [beq_iff_eq] at hlen
    subst hlen
    have hs := hs2
    clear hs2
    obtain ⟨q, q1, q2, q3, hs⟩ := q_cns hs
    obtain ⟨v, v1, v2⟩ := (htb.2.2.1 q q1).1 (by simpa using q3)
    rw [q2] at v2
    exact qs_cI hs v1 (fun H locs ls st hk => by
      obtain ⟨γ, p, l, e, R, s, m, args, below, meth, c, Q, ⟨cc, nL', own⟩, A, D, adr, X, ms, w0, σe⟩ := x
      exact lv_ldc hB.1 hB.2.1 hB.2.2.2.1 (hB.2.2.2.2.1 _ v2) hdc hk) h
  · rename_i j
    obtain ⟨hlen, hs2⟩ := q_if hs
    clear hs
    simp only [beq_iff_eq] at hlen
    subst hlen
    have hs := hs2
    clear hs2
    obtain ⟨q, q1, q2, q3, hs⟩ := q_cns hs
    obtain ⟨v, v1, v2⟩ := (htb.2.2.1 q q1).1 (by simpa using q3)
    rw [q2] at v2
    exact qs_cI hs v1 (fun H locs ls st hk => by
      obtain ⟨γ, p, l, e, R, s, m, args, below, meth, c, Q, ⟨cc, nL', own⟩, A, D, adr, X, ms, w0, σe⟩ := x
      exact lv_ldcw hB.1 hB.2.1 hB.2.2.2.1 (hB.2.2.2.2.1 _ v2) hdc hk) h
  · rename_i j
    obtain ⟨hlen, hs2⟩ := q_if hs
    clear hs
    simp only [beq_iff_eq] at hlen
    subst hlen
    have hs := hs2
    clear hs2
    obtain ⟨q, q1, q2, q3, hs⟩ := q_cns hs
    obtain ⟨v, v1, v2⟩ := (htb.2.2.1 q q1).2 (by simpa using q3)
    rw [q2] at v2
    exact qs_cL hs v1 (fun H locs ls st hk => by
      obtain ⟨γ, p, l, e, R, s, m, args, below, meth, c, Q, ⟨cc, nL', own⟩, A, D, adr, X, ms, w0, σe⟩ := x
      exact lv_ldc2 hB.1 hB.2.1 hB.2.2.2.1 (hB.2.2.2.2.1 _ v2) hdc hk) h
  · obtain ⟨hlen, hs2⟩ := q_if hs
    clear hs
    simp only [beq_iff_eq] at hlen
    subst hlen
    have hs := hs2
    clear hs2
    exact qs_binI hs (fun H locs ls st y z _ hk => by
      obtain ⟨γ, p, l, e, R, s, m, args, below, meth, c, Q, ⟨cc, nL', own⟩, A, D, adr, X, ms, w0, σe⟩ := x
      exact lv_iadd hB.1 hB.2.1 hdc hk) h
  · obtain ⟨hlen, hs2⟩ := q_if hs
    clear hs
    simp only [beq_iff_eq] at hlen
    subst hlen
    have hs := hs2
    clear hs2
    exact qs_binI hs (fun H locs ls st y z _ hk => by
      obtain ⟨γ, p, l, e, R, s, m, args, below, meth, c, Q, ⟨cc, nL', own⟩, A, D, adr, X, ms, w0, σe⟩ := x
      exact lv_isub hB.1 hB.2.1 hdc hk) h
  · obtain ⟨hlen, hs2⟩ := q_if hs
    clear hs
    simp only [beq_iff_eq] at hlen
    subst hlen
    have hs := hs2
    clear hs2
    exact qs_binI hs (fun H locs ls st y z _ hk => by
      obtain ⟨γ, p, l, e, R, s, m, args, below, meth, c, Q, ⟨cc, nL', own⟩, A, D, adr, X, ms, w0, σe⟩ := x
      exact lv_imul hB.1 hB.2.1 hdc hk) h
  · obtain ⟨hlen, hs2⟩ := q_if hs
    clear hs
    simp only [beq_iff_eq] at hlen
    subst hlen
    have hs := hs2
    clear hs2
    exact qs_binI hs (fun H locs ls st y z _ hk => by
      obtain ⟨γ, p, l, e, R, s, m, args, below, meth, c, Q, ⟨cc, nL', own⟩, A, D, adr, X, ms, w0, σe⟩ := x
      exact lv_iand hB.1 hB.2.1 hdc hk) h
  · obtain ⟨hlen, hs2⟩ := q_if hs
    clear hs
    simp only [beq_iff_eq] at hlen
    subst hlen
    have hs := hs2
    clear hs2
    exact qs_binI hs (fun H locs ls st y z _ hk => by
      obtain ⟨γ, p, l, e, R, s, m, args, below, meth, c, Q, ⟨cc, nL', own⟩, A, D, adr, X, ms, w0, σe⟩ := x
      exact lv_ior hB.1 hB.2.1 hdc hk) h
  · obtain ⟨hlen, hs2⟩ := q_if hs
    clear hs
    simp only [beq_iff_eq] at hlen
    subst hlen
    have hs := hs2
    clear hs2
    exact qs_binI hs (fun H locs ls st y z _ hk => by
      obtain ⟨γ, p, l, e, R, s, m, args, below, meth, c, Q, ⟨cc, nL', own⟩, A, D, adr, X, ms, w0, σe⟩ := x
      exact lv_ixor hB.1 hB.2.1 hdc hk) h
  · obtain ⟨hlen, hs2⟩ := q_if hs
    clear hs
    simp only [beq_iff_eq] at hlen
    subst hlen
    have hs := hs2
    clear hs2
    exact qs_binI hs (fun H locs ls st y z _ hk => by
      obtain ⟨γ, p, l, e, R, s, m, args, below, meth, c, Q, ⟨cc, nL', own⟩, A, D, adr, X, ms, w0, σe⟩ := x
      exact lv_ishl hB.1 hB.2.1 hdc hk) h
  · obtain ⟨hlen, hs2⟩ := q_if hs
    clear hs
    simp only [beq_iff_eq] at hlen
    subst hlen
    have hs := hs2
    clear hs2
    exact qs_binI hs (fun H locs ls st y z _ hk => by
      obtain ⟨γ, p, l, e, R, s, m, args, below, meth, c, Q, ⟨cc, nL', own⟩, A, D, adr, X, ms, w0, σe⟩ := x
      exact lv_ishr hB.1 hB.2.1 hdc hk) h
  · obtain ⟨hlen, hs2⟩ := q_if hs
    clear hs
    simp only [beq_iff_eq] at hlen
    subst hlen
    have hs := hs2
    clear hs2
    exact qs_binI hs (fun H locs ls st y z _ hk => by
      obtain ⟨γ, p, l, e, R, s, m, args, below, meth, c, Q, ⟨cc, nL', own⟩, A, D, adr, X, ms, w0, σe⟩ := x
      exact lv_iushr hB.1 hB.2.1 hdc rfl hk) h
  · obtain ⟨hlen, hs2⟩ := q_if hs
    clear hs
    simp only [beq_iff_eq] at hlen
    subst hlen
    have hs := hs2
    clear hs2
    exact qs_binI hs (fun H locs ls st y z hz hk => by
      obtain ⟨γ, p, l, e, R, s, m, args, below, meth, c, Q, ⟨cc, nL', own⟩, A, D, adr, X, ms, w0, σe⟩ := x
      exact lv_idiv hB.1 hB.2.1 hdc (hz (by decide)) hk) h
  · obtain ⟨hlen, hs2⟩ := q_if hs
    clear hs
    simp only [beq_iff_eq] at hlen
    subst hlen
    have hs := hs2
    clear hs2
    exact qs_binI hs (fun H locs ls st y z hz hk => by
      obtain ⟨γ, p, l, e, R, s, m, args, below, meth, c, Q, ⟨cc, nL', own⟩, A, D, adr, X, ms, w0, σe⟩ := x
      exact lv_irem hB.1 hB.2.1 hdc (hz (by decide)) hk) h
  · obtain ⟨hlen, hs2⟩ := q_if hs
    clear hs
    simp only [beq_iff_eq] at hlen
    subst hlen
    have hs := hs2
    clear hs2
    exact qs_unG hs (fun H locs ls st D σ ρ N a r v hN hr hf => by
      unfold qu_neg at hf
      rw [Option.map_eq_some_iff] at hf
      obtain ⟨pv, hp, rfl⟩ := hf
      obtain ⟨z, rfl, hz⟩ := q_iv hN hr hp
      obtain ⟨σ', s1, s2, s3⟩ := q_fr (ρ := ρ) hN (x := -z) (q_clip (q_negT z) (q_neg hz))
      refine ⟨_, σ', s1, s2, s3, fun hk => ?_⟩
      obtain ⟨γ, p, l, e, R, s, m, args, below, meth, c, Q, ⟨cc, nL', own⟩, A, D9, adr, X, ms, w0, σe⟩ := x
      exact lv_ineg hB.1 hB.2.1 hdc hk) h
  · obtain ⟨hlen, hs2⟩ := q_if hs
    clear hs
    simp only [beq_iff_eq] at hlen
    subst hlen
    have hs := hs2
    clear hs2
    exact qs_unG hs (fun H locs ls st D σ ρ N a r v hN hr hf => by
      unfold qu_i2b at hf
      rw [Option.map_eq_some_iff] at hf
      obtain ⟨pv, hp, rfl⟩ := hf
      obtain ⟨z, rfl, hz⟩ := q_iv hN hr hp
      obtain ⟨σ', s1, s2, s3⟩ := q_fr (ρ := ρ) hN (x := z.toInt8.toInt32) (q_i2b z)
      refine ⟨_, σ', s1, s2, s3, fun hk => ?_⟩
      obtain ⟨γ, p, l, e, R, s, m, args, below, meth, c, Q, ⟨cc, nL', own⟩, A, D9, adr, X, ms, w0, σe⟩ := x
      exact lv_i2b hB.1 hB.2.1 hdc rfl hk) h
  · obtain ⟨hlen, hs2⟩ := q_if hs
    clear hs
    simp only [beq_iff_eq] at hlen
    subst hlen
    have hs := hs2
    clear hs2
    exact qs_unG hs (fun H locs ls st D σ ρ N a r v hN hr hf => by
      unfold qu_i2l at hf
      rw [Option.map_eq_some_iff] at hf
      obtain ⟨pv, hp, rfl⟩ := hf
      obtain ⟨z, rfl, hz⟩ := q_iv hN hr hp
      obtain ⟨σ', s1, s2, s3⟩ := q_frL (ρ := ρ) hN (x := z.toInt64) (by rw [q_i2l]; exact hz)
      refine ⟨_, σ', s1, s2, s3, fun hk => ?_⟩
      obtain ⟨γ, p, l, e, R, s, m, args, below, meth, c, Q, ⟨cc, nL', own⟩, A, D9, adr, X, ms, w0, σe⟩ := x
      exact lv_i2l hB.1 hB.2.1 hdc rfl hk) h
  · obtain ⟨hlen, hs2⟩ := q_if hs
    clear hs
    simp only [beq_iff_eq] at hlen
    subst hlen
    have hs := hs2
    clear hs2
    exact qs_unG hs (fun H locs ls st D σ ρ N a r v hN hr hf => by
      unfold qu_l2i at hf
      rw [Option.map_eq_some_iff] at hf
      obtain ⟨pv, hp, rfl⟩ := hf
      obtain ⟨z, rfl, hz⟩ := q_ivL hN hr hp
      obtain ⟨σ', s1, s2, s3⟩ := q_fr (ρ := ρ) hN (x := z.toInt32) (q_l2i hz)
      refine ⟨_, σ', s1, s2, s3, fun hk => ?_⟩
      obtain ⟨γ, p, l, e, R, s, m, args, below, meth, c, Q, ⟨cc, nL', own⟩, A, D9, adr, X, ms, w0, σe⟩ := x
      exact lv_l2i hB.1 hB.2.1 hdc rfl hk) h
  · obtain ⟨hlen, hs2⟩ := q_if hs
    clear hs
    simp only [beq_iff_eq] at hlen
    subst hlen
    have hs := hs2
    clear hs2
    exact qs_binLG hs (fun H locs ls st y z _ => ⟨_, .inl ⟨by decide, rfl⟩, fun hk => by
      obtain ⟨γ, p, l, e, R, s, m, args, below, meth, c, Q, ⟨cc, nL', own⟩, A, D, adr, X, ms, w0, σe⟩ := x
      exact lv_ladd hB.1 hB.2.1 hdc hk⟩) h
  · obtain ⟨hlen, hs2⟩ := q_if hs
    clear hs
    simp only [beq_iff_eq] at hlen
    subst hlen
    have hs := hs2
    clear hs2
    exact qs_binLG hs (fun H locs ls st y z _ => ⟨_, .inl ⟨by decide, rfl⟩, fun hk => by
      obtain ⟨γ, p, l, e, R, s, m, args, below, meth, c, Q, ⟨cc, nL', own⟩, A, D, adr, X, ms, w0, σe⟩ := x
      exact lv_lmul hB.1 hB.2.1 hdc hk⟩) h
  · obtain ⟨hlen, hs2⟩ := q_if hs
    clear hs
    simp only [beq_iff_eq] at hlen
    subst hlen
    have hs := hs2
    clear hs2
    exact qs_binLG hs (fun H locs ls st y z _ => ⟨_, .inl ⟨by decide, rfl⟩, fun hk => by
      obtain ⟨γ, p, l, e, R, s, m, args, below, meth, c, Q, ⟨cc, nL', own⟩, A, D, adr, X, ms, w0, σe⟩ := x
      exact lv_land hB.1 hB.2.1 hdc hk⟩) h
  · obtain ⟨hlen, hs2⟩ := q_if hs
    clear hs
    simp only [beq_iff_eq] at hlen
    subst hlen
    have hs := hs2
    clear hs2
    exact qs_binLG hs (fun H locs ls st y z _ => ⟨_, .inl ⟨by decide, rfl⟩, fun hk => by
      obtain ⟨γ, p, l, e, R, s, m, args, below, meth, c, Q, ⟨cc, nL', own⟩, A, D, adr, X, ms, w0, σe⟩ := x
      exact lv_lor hB.1 hB.2.1 hdc hk⟩) h
  · obtain ⟨hlen, hs2⟩ := q_if hs
    clear hs
    simp only [beq_iff_eq] at hlen
    subst hlen
    have hs := hs2
    clear hs2
    exact qs_binLG hs (fun H locs ls st y z _ => ⟨_, .inl ⟨by decide, rfl⟩, fun hk => by
      obtain ⟨γ, p, l, e, R, s, m, args, below, meth, c, Q, ⟨cc, nL', own⟩, A, D, adr, X, ms, w0, σe⟩ := x
      exact lv_lsub hB.1 hB.2.1 hdc hk⟩) h
  · obtain ⟨hlen, hs2⟩ := q_if hs
    clear hs
    simp only [beq_iff_eq] at hlen
    subst hlen
    have hs := hs2
    clear hs2
    exact qs_binLG hs (fun H locs ls st y z hz => ⟨_, .inl ⟨by decide, rfl⟩, fun hk => by
      obtain ⟨γ, p, l, e, R, s, m, args, below, meth, c, Q, ⟨cc, nL', own⟩, A, D, adr, X, ms, w0, σe⟩ := x
      exact lv_ldiv hB.1 hB.2.1 hdc (hz (by decide)) hk⟩) h
  · obtain ⟨hlen, hs2⟩ := q_if hs
    clear hs
    simp only [beq_iff_eq] at hlen
    subst hlen
    have hs := hs2
    clear hs2
    exact qs_binLG hs (fun H locs ls st y z hz => ⟨_, .inl ⟨by decide, rfl⟩, fun hk => by
      obtain ⟨γ, p, l, e, R, s, m, args, below, meth, c, Q, ⟨cc, nL', own⟩, A, D, adr, X, ms, w0, σe⟩ := x
      exact lv_lrem hB.1 hB.2.1 hdc (hz (by decide)) hk⟩) h
  · obtain ⟨hlen, hs2⟩ := q_if hs
    clear hs
    simp only [beq_iff_eq] at hlen
    subst hlen
    have hs := hs2
    clear hs2
    exact qs_binLG hs (fun H locs ls st y z _ => ⟨.int (lg_cmp y z), .inr ⟨by decide, _, rfl, q_cmp y z⟩, fun hk => by
      obtain ⟨γ, p, l, e, R, s, m, args, below, meth, c, Q, ⟨cc, nL', own⟩, A, D, adr, X, ms, w0, σe⟩ := x
      exact W.lcmp hB.1 hB.2.1 hdc hk⟩) h
  · obtain ⟨hlen, hs2⟩ := q_if hs
    clear hs
    simp only [beq_iff_eq] at hlen
    subst hlen
    have hs := hs2
    clear hs2
    exact qs_shLG hs (fun H locs ls st y z => ⟨y <<< (z.toInt64 &&& 63), fun hk => by
      obtain ⟨γ, p, l, e, R, s, m, args, below, meth, c, Q, ⟨cc, nL', own⟩, A, D, adr, X, ms, w0, σe⟩ := x
      exact lv_lshl hB.1 hB.2.1 hdc rfl hk⟩) h
  · obtain ⟨hlen, hs2⟩ := q_if hs
    clear hs
    simp only [beq_iff_eq] at hlen
    subst hlen
    have hs := hs2
    clear hs2
    exact qs_shLG hs (fun H locs ls st y z => ⟨(y.toUInt64 >>> (z.toInt64.toUInt64 &&& Int64.toUInt64 63)).toInt64, fun hk => by
      obtain ⟨γ, p, l, e, R, s, m, args, below, meth, c, Q, ⟨cc, nL', own⟩, A, D, adr, X, ms, w0, σe⟩ := x
      exact lv_lushr hB.1 hB.2.1 hdc rfl hk⟩) h
  · rename_i j n
    obtain ⟨hlen, hs2⟩ := q_if hs
    clear hs
    simp only [beq_iff_eq] at hlen
    subst hlen
    have hs := hs2
    clear hs2
    exact qs_incG hB hnL hs hdc h
  · obtain ⟨hlen, hs2⟩ := q_if hs
    clear hs
    simp only [beq_iff_eq] at hlen
    subst hlen
    have hs := hs2
    clear hs2
    exact qs_dupG hB hs hdc h
  · obtain ⟨hlen, hs2⟩ := q_if hs
    clear hs
    simp only [beq_iff_eq] at hlen
    subst hlen
    have hs := hs2
    clear hs2
    exact qs_dup2G hB hs hdc h
  · obtain ⟨hlen, hs2⟩ := q_if hs
    clear hs
    simp only [beq_iff_eq] at hlen
    subst hlen
    have hs := hs2
    clear hs2
    exact qs_popG hB hs hdc h
  · rename_i off
    obtain ⟨hlen, hs2⟩ := q_if hs
    clear hs
    simp only [beq_iff_eq] at hlen
    subst hlen
    have hs := hs2
    clear hs2
    exact qs_gotoG hB hs hdc h
  · rename_i off
    obtain ⟨hlen, hs2⟩ := q_if hs
    clear hs
    simp only [beq_iff_eq] at hlen
    subst hlen
    have hs := hs2
    clear hs2
    exact qs_ifG hs (fun H locs ls st y t ht k1 k2 => by
      obtain ⟨γ, p, l, e, R, s, m, args, below, meth, c, Q, ⟨cc, nL', own⟩, A, D, adr, X, ms, w0, σe⟩ := x
      exact lv_if_eq hB.1 hB.2.1 hdc ht (fun hc => k1 (q_c0 hc)) (fun hc => k2 (q_c1 hc))) h
  · rename_i off
    obtain ⟨hlen, hs2⟩ := q_if hs
    clear hs
    simp only [beq_iff_eq] at hlen
    subst hlen
    have hs := hs2
    clear hs2
    exact qs_icmpG hs (fun H locs ls st y z t ht k1 k2 => by
      obtain ⟨γ, p, l, e, R, s, m, args, below, meth, c, Q, ⟨cc, nL', own⟩, A, D, adr, X, ms, w0, σe⟩ := x
      exact lv_icmp_eq hB.1 hB.2.1 hdc ht (fun hc => k1 (q_c0 hc)) (fun hc => k2 (q_c1 hc))) h
  · rename_i off
    obtain ⟨hlen, hs2⟩ := q_if hs
    clear hs
    simp only [beq_iff_eq] at hlen
    subst hlen
    have hs := hs2
    clear hs2
    exact qs_ifG hs (fun H locs ls st y t ht k1 k2 => by
      obtain ⟨γ, p, l, e, R, s, m, args, below, meth, c, Q, ⟨cc, nL', own⟩, A, D, adr, X, ms, w0, σe⟩ := x
      exact lv_if_ne hB.1 hB.2.1 hdc ht (fun hc => k1 (q_c1 hc)) (fun hc => k2 (q_c0 hc))) h
  · rename_i off
    obtain ⟨hlen, hs2⟩ := q_if hs
    clear hs
    simp only [beq_iff_eq] at hlen
    subst hlen
    have hs := hs2
    clear hs2
    exact qs_icmpG hs (fun H locs ls st y z t ht k1 k2 => by
      obtain ⟨γ, p, l, e, R, s, m, args, below, meth, c, Q, ⟨cc, nL', own⟩, A, D, adr, X, ms, w0, σe⟩ := x
      exact lv_icmp_ne hB.1 hB.2.1 hdc ht (fun hc => k1 (q_c1 hc)) (fun hc => k2 (q_c0 hc))) h
  · rename_i off
    obtain ⟨hlen, hs2⟩ := q_if hs
    clear hs
    simp only [beq_iff_eq] at hlen
    subst hlen
    have hs := hs2
    clear hs2
    exact qs_ifG hs (fun H locs ls st y t ht k1 k2 => by
      obtain ⟨γ, p, l, e, R, s, m, args, below, meth, c, Q, ⟨cc, nL', own⟩, A, D, adr, X, ms, w0, σe⟩ := x
      exact lv_if_lt hB.1 hB.2.1 hdc ht (fun hc => k1 (q_c2 hc)) (fun hc => k2 (q_c3 hc))) h
  · rename_i off
    obtain ⟨hlen, hs2⟩ := q_if hs
    clear hs
    simp only [beq_iff_eq] at hlen
    subst hlen
    have hs := hs2
    clear hs2
    exact qs_icmpG hs (fun H locs ls st y z t ht k1 k2 => by
      obtain ⟨γ, p, l, e, R, s, m, args, below, meth, c, Q, ⟨cc, nL', own⟩, A, D, adr, X, ms, w0, σe⟩ := x
      exact lv_icmp_lt hB.1 hB.2.1 hdc ht (fun hc => k1 (q_c2 hc)) (fun hc => k2 (q_c3 hc))) h
  · rename_i off
    obtain ⟨hlen, hs2⟩ := q_if hs
    clear hs
    simp only [beq_iff_eq] at hlen
    subst hlen
    have hs := hs2
    clear hs2
    exact qs_ifG hs (fun H locs ls st y t ht k1 k2 => by
      obtain ⟨γ, p, l, e, R, s, m, args, below, meth, c, Q, ⟨cc, nL', own⟩, A, D, adr, X, ms, w0, σe⟩ := x
      exact lv_if_ge hB.1 hB.2.1 hdc ht (fun hc => k1 (q_c3b hc)) (fun hc => k2 (q_c2b hc))) h
  · rename_i off
    obtain ⟨hlen, hs2⟩ := q_if hs
    clear hs
    simp only [beq_iff_eq] at hlen
    subst hlen
    have hs := hs2
    clear hs2
    exact qs_icmpG hs (fun H locs ls st y z t ht k1 k2 => by
      obtain ⟨γ, p, l, e, R, s, m, args, below, meth, c, Q, ⟨cc, nL', own⟩, A, D, adr, X, ms, w0, σe⟩ := x
      exact lv_icmp_ge hB.1 hB.2.1 hdc ht (fun hc => k1 (q_c3b hc)) (fun hc => k2 (q_c2b hc))) h
  · rename_i off
    obtain ⟨hlen, hs2⟩ := q_if hs
    clear hs
    simp only [beq_iff_eq] at hlen
    subst hlen
    have hs := hs2
    clear hs2
    exact qs_ifG hs (fun H locs ls st y t ht k1 k2 => by
      obtain ⟨γ, p, l, e, R, s, m, args, below, meth, c, Q, ⟨cc, nL', own⟩, A, D, adr, X, ms, w0, σe⟩ := x
      exact lv_if_gt hB.1 hB.2.1 hdc ht (fun hc => k1 (q_c4 hc)) (fun hc => k2 (q_c5 hc))) h
  · rename_i off
    obtain ⟨hlen, hs2⟩ := q_if hs
    clear hs
    simp only [beq_iff_eq] at hlen
    subst hlen
    have hs := hs2
    clear hs2
    exact qs_icmpG hs (fun H locs ls st y z t ht k1 k2 => by
      obtain ⟨γ, p, l, e, R, s, m, args, below, meth, c, Q, ⟨cc, nL', own⟩, A, D, adr, X, ms, w0, σe⟩ := x
      exact lv_icmp_gt hB.1 hB.2.1 hdc ht (fun hc => k1 (q_c4 hc)) (fun hc => k2 (q_c5 hc))) h
  · rename_i off
    obtain ⟨hlen, hs2⟩ := q_if hs
    clear hs
    simp only [beq_iff_eq] at hlen
    subst hlen
    have hs := hs2
    clear hs2
    exact qs_ifG hs (fun H locs ls st y t ht k1 k2 => by
      obtain ⟨γ, p, l, e, R, s, m, args, below, meth, c, Q, ⟨cc, nL', own⟩, A, D, adr, X, ms, w0, σe⟩ := x
      exact lv_if_le hB.1 hB.2.1 hdc ht (fun hc => k1 (q_c5b hc)) (fun hc => k2 (q_c4b hc))) h
  · rename_i off
    obtain ⟨hlen, hs2⟩ := q_if hs
    clear hs
    simp only [beq_iff_eq] at hlen
    subst hlen
    have hs := hs2
    clear hs2
    exact qs_icmpG hs (fun H locs ls st y z t ht k1 k2 => by
      obtain ⟨γ, p, l, e, R, s, m, args, below, meth, c, Q, ⟨cc, nL', own⟩, A, D, adr, X, ms, w0, σe⟩ := x
      exact lv_icmp_le hB.1 hB.2.1 hdc ht (fun hc => k1 (q_c5b hc)) (fun hc => k2 (q_c4b hc))) h
  · rename_i off
    obtain ⟨hlen, hs2⟩ := q_if hs
    clear hs
    simp only [beq_iff_eq] at hlen
    subst hlen
    have hs := hs2
    clear hs2
    exact qs_acmpG hB hs (.inl hdc) h
  · rename_i off
    obtain ⟨hlen, hs2⟩ := q_if hs
    clear hs
    simp only [beq_iff_eq] at hlen
    subst hlen
    have hs := hs2
    clear hs2
    exact qs_acmpG hB hs (.inr hdc) h
  · rename_i j
    obtain ⟨hlen, hs2⟩ := q_if hs
    clear hs
    simp only [beq_iff_eq] at hlen
    subst hlen
    have hs := hs2
    clear hs2
    rcases q_or2 hs with hs | hs
    · subst eD; exact qs_getG hB hD htb.1 hs hdc h
    · exact qs_getwG hB eD hD htb.2.2.2.2.1 hs hdc h
  · rename_i j
    obtain ⟨hlen, hs2⟩ := q_if hs
    clear hs
    simp only [beq_iff_eq] at hlen
    subst hlen
    have hs := hs2
    clear hs2
    exact qs_putG hB eD hD ems hX htb.1 hs hdc h
  · obtain ⟨hlen, hs2⟩ := q_if hs
    clear hs
    simp only [beq_iff_eq] at hlen
    subst hlen
    have hs := hs2
    clear hs2
    exact qs_iald hB eD hD hs hdc h
  · obtain ⟨hlen, hs2⟩ := q_if hs
    clear hs
    simp only [beq_iff_eq] at hlen
    subst hlen
    have hs := hs2
    clear hs2
    exact qs_bald hB eD hD hs hdc h
  · obtain ⟨hlen, hs2⟩ := q_if hs
    clear hs
    simp only [beq_iff_eq] at hlen
    subst hlen
    have hs := hs2
    clear hs2
    exact qs_lald hB eD hD hs hdc h
  · obtain ⟨hlen, hs2⟩ := q_if hs
    clear hs
    simp only [beq_iff_eq] at hlen
    subst hlen
    have hs := hs2
    clear hs2
    exact qs_aald hB eD hD hs hdc h
  · obtain ⟨hlen, hs2⟩ := q_if hs
    clear hs
    simp only [beq_iff_eq] at hlen
    subst hlen
    have hs := hs2
    clear hs2
    exact qs_iast hB eD hD ems hX hs hdc h
  · obtain ⟨hlen, hs2⟩ := q_if hs
    clear hs
    simp only [beq_iff_eq] at hlen
    subst hlen
    have hs := hs2
    clear hs2
    exact qs_bast hB eD hD ems hX hs hdc h
  · obtain ⟨hlen, hs2⟩ := q_if hs
    clear hs
    simp only [beq_iff_eq] at hlen
    subst hlen
    have hs := hs2
    clear hs2
    exact qs_last hB eD hD ems hX hs hdc h
  · obtain ⟨hlen, hs2⟩ := q_if hs
    clear hs
    simp only [beq_iff_eq] at hlen
    subst hlen
    have hs := hs2
    clear hs2
    exact qs_lenG hB eD hD hs hdc h
  · rename_i j
    obtain ⟨hlen, hs2⟩ := q_if hs
    clear hs
    simp only [beq_iff_eq] at hlen
    subst hlen
    have hs := hs2
    clear hs2
    exact qs_gsG hB eD htb.2.2.2.1 hs hdc h
  · rename_i j
    obtain ⟨hlen, hs2⟩ := q_if hs
    clear hs
    simp only [beq_iff_eq] at hlen
    subst hlen
    have hs := hs2
    clear hs2
    exact qs_callG hB eD hD ems hcon htb.2.1 hR hs (.inl ⟨rfl, hdc⟩) h
  · rename_i j
    obtain ⟨hlen, hs2⟩ := q_if hs
    clear hs
    simp only [beq_iff_eq] at hlen
    subst hlen
    have hs := hs2
    clear hs2
    rcases q_or2 hs with hs | hs
    · exact qs_cpyG hB eD hD ems hX htb.2.2.2.2.2.1 hR hs hdc h
    · rcases q_or2 hs with hs | hs
      · exact qs_mmG hB htb.2.2.2.2.2.2 hR hs hdc h
      · exact qs_callG hB eD hD ems hcon htb.2.1 hR hs (.inr ⟨rfl, hdc⟩) h
  · exact qs_tswG hB hs hdc h
  · exact qs_lswG hB hs hdc h
  · cases hs

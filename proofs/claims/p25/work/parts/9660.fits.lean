/-! fits: what it is -/
/-- whether the guesses e allow what follows: 1 or 0 -/
def alF (fol : Int32) (e : Nat → Int32) : Nat → Int32
  | 0 => 1
  | k + 1 => if F_isIn fol (e k >>> (1 &&& 31)) = (if e k &&& 1 = 1 then 1 else 0) then alF fol e k else 0
theorem alF_s {fol : Int32} {e : Nat → Int32} {k : Nat} : alF fol e (k + 1) = if F_isIn fol (e k >>> (1 &&& 31)) = (if e k &&& 1 = 1 then 1 else 0) then alF fol e k else 0 := rfl
theorem ite_01 {c : Prop} [Decidable c] {x : Int32} (h : x = 0 ∨ x = 1) : (if c then x else 0) = 0 ∨ (if c then x else 0) = 1 := by
  by_cases hc : c
  · rw [if_pos hc]; exact h
  · rw [if_neg hc]; exact .inl rfl
theorem alF_01 {fol : Int32} {e : Nat → Int32} : ∀ k, alF fol e k = 0 ∨ alF fol e k = 1
  | 0 => .inr rfl
  | k + 1 => by
    rw [alF_s]
    exact ite_01 (alF_01 k)
theorem alF_0 {fol : Int32} {e : Nat → Int32} {i : Nat} (h : alF fol e i = 0) : ∀ n, i ≤ n → alF fol e n = 0
  | 0, hn => by
    have : i = 0 := by omega
    rw [this] at h
    exact h
  | n + 1, hn => by
    by_cases e9 : i = n + 1
    · rw [← e9]; exact h
    · rw [alF_s, alF_0 h n (by omega)]
      exact ite_self _
theorem alF_z {fol : Int32} {e : Nat → Int32} {k : Nat} : narrow .boolean (.int (alF fol e k)) = .int (alF fol e k) := by
  rcases alF_01 (fol := fol) (e := e) k with h | h <;> rw [h] <;> rfl
theorem alF_same {fol : Int32} {e f : Nat → Int32} : ∀ k, (∀ i, i < k → e i = f i) → alF fol e k = alF fol f k
  | 0, _ => rfl
  | k + 1, h => by rw [alF_s, alF_s, h k (by omega), alF_same k (fun i hi => h i (by omega))]
def fiF (af e : Nat → Int32) (G : Nat) : Nat → Int32
  | 0 => 0
  | k + 1 => if alF (af k) e G = 0 then fiF af e G k else fiF af e G k ||| (1 <<< (nI k &&& 31))
theorem fiF_s {af e : Nat → Int32} {G k : Nat} : fiF af e G (k + 1) = if alF (af k) e G = 0 then fiF af e G k else fiF af e G k ||| (1 <<< (nI k &&& 31)) := rfl
theorem fiF_p {af e : Nat → Int32} {G k : Nat} (h : alF (af k) e G = 0) : fiF af e G k = fiF af e G (k + 1) := (if_pos h).symm
theorem fiF_n {af e : Nat → Int32} {G k : Nat} (h : ¬ alF (af k) e G = 0) : fiF af e G k ||| (1 <<< (nI k &&& 31)) = fiF af e G (k + 1) := (if_neg h).symm
/-- the model's -/
def mlF (fol : Int32) (o m : Nat → Int32) : Nat → Int32
  | 0 => 1
  | k + 1 => if mlF fol o m k = 0 then 0 else if (if (fol >>> (o k &&& 31)) &&& 1 = 1 then 1 else 0) = m k then 1 else 0
theorem mlF_s {fol : Int32} {o m : Nat → Int32} {k : Nat} : mlF fol o m (k + 1) = if mlF fol o m k = 0 then 0 else if (if (fol >>> (o k &&& 31)) &&& 1 = 1 then 1 else 0) = m k then 1 else 0 := rfl
def miF (af o m : Nat → Int32) (G : Nat) : Nat → Int32
  | 0 => 0
  | k + 1 => if mlF (af k) o m G = 0 then miF af o m G k else miF af o m G k ||| (1 <<< (nI k &&& 31))
theorem miF_p {af o m : Nat → Int32} {G k : Nat} (h : mlF (af k) o m G = 0) : miF af o m G k = miF af o m G (k + 1) := (if_pos h).symm
theorem miF_n {af o m : Nat → Int32} {G k : Nat} (h : ¬ mlF (af k) o m G = 0) : miF af o m G k ||| (1 <<< (nI k &&& 31)) = miF af o m G (k + 1) := (if_neg h).symm
theorem sh_1 : ∀ t : Nat, t < 8 → ((nI t * 2 + 0) >>> (1 &&& 31) = nI t ∧ (nI t * 2 + 0) &&& 1 = 0) ∧ ((nI t * 2 + 1) >>> (1 &&& 31) = nI t ∧ (nI t * 2 + 1) &&& 1 = 1) := by decide +kernel
theorem al_ml {fol : Int32} {e o m : Nat → Int32} : ∀ G, (∀ i, i < G → (∃ t, t < 8 ∧ o i = nI t ∧ e i = nI t * 2 + m i) ∧ (m i = 0 ∨ m i = 1)) → alF fol e G = mlF fol o m G
  | 0, _ => rfl
  | k + 1, h => by
    have ih := al_ml (fol := fol) k (fun i hi => h i (by omega))
    obtain ⟨⟨t, t1, t2, t3⟩, t4⟩ := h k (by omega)
    rw [alF_s, mlF_s, ih, t2]
    have hF : F_isIn fol (nI t) = if (fol >>> (nI t &&& 31)) &&& 1 = 1 then 1 else 0 := by
      unfold F_isIn
      rcases and1 (fol >>> (nI t &&& 31)) with h9 | h9
      · rw [if_pos h9, if_neg (by rw [h9]; decide)]
      · rw [if_neg (by rw [h9]; decide), if_pos h9]
    have hml : mlF fol o m k = 0 ∨ mlF fol o m k = 1 := by
      rw [← ih]; exact alF_01 k
    rcases t4 with hm | hm
    · rw [t3, hm, (sh_1 t t1).1.1, (sh_1 t t1).1.2, hF, if_neg (show ¬ (0 : Int32) = 1 by decide)]
      rcases hml with h0 | h0
      · rw [h0, if_pos rfl]; split <;> rfl
      · rw [h0, if_neg (show ¬ (1 : Int32) = 0 by decide)]
    · rw [t3, hm, (sh_1 t t1).2.1, (sh_1 t t1).2.2, hF, if_pos rfl]
      rcases hml with h0 | h0
      · rw [h0, if_pos rfl]; split <;> rfl
      · rw [h0, if_neg (show ¬ (1 : Int32) = 0 by decide)]
theorem fi_mi {af e o m : Nat → Int32} {G : Nat} (h : ∀ i, i < G → (∃ t, t < 8 ∧ o i = nI t ∧ e i = nI t * 2 + m i) ∧ (m i = 0 ∨ m i = 1)) : ∀ T, fiF af e G T = miF af o m G T
  | 0 => rfl
  | k + 1 => by
    show (if alF (af k) e G = 0 then fiF af e G k else fiF af e G k ||| (1 <<< (nI k &&& 31))) = (if mlF (af k) o m G = 0 then miF af o m G k else miF af o m G k ||| (1 <<< (nI k &&& 31)))
    rw [al_ml G h, fi_mi h k]
theorem fiF_same {af bf e f : Nat → Int32} {G : Nat} (he : ∀ i, i < G → e i = f i) : ∀ T, (∀ i, i < T → af i = bf i) → fiF af e G T = fiF bf f G T
  | 0, _ => rfl
  | k + 1, h => by
    rw [fiF_s, fiF_s, h k (by omega), alF_same G he, fiF_same he k (fun i hi => h i (by omega))]
theorem mlF_same {fol : Int32} {o m o' m' : Nat → Int32} : ∀ k, (∀ i, i < k → o i = o' i ∧ m i = m' i) → mlF fol o m k = mlF fol o' m' k
  | 0, _ => rfl
  | k + 1, h => by rw [mlF_s, mlF_s, mlF_same k (fun i hi => h i (by omega)), (h k (by omega)).1, (h k (by omega)).2]
theorem miF_same {af bf o m o' m' : Nat → Int32} {G : Nat} (hg : ∀ i, i < G → o i = o' i ∧ m i = m' i) : ∀ T, (∀ i, i < T → af i = bf i) → miF af o m G T = miF bf o' m' G T
  | 0, _ => rfl
  | k + 1, h => by
    show (if mlF (af k) o m G = 0 then miF af o m G k else miF af o m G k ||| (1 <<< (nI k &&& 31))) = (if mlF (bf k) o' m' G = 0 then miF bf o' m' G k else miF bf o' m' G k ||| (1 <<< (nI k &&& 31)))
    rw [h k (by omega), mlF_same G hg, miF_same hg k (fun i hi => h i (by omega))]
theorem dX3_allowsGuessed_0 : decode cX3_allowsGuessed 0 = .ok (.iconst 0, 1) := by decide +kernel
theorem dX3_allowsGuessed_1 : decode cX3_allowsGuessed 1 = .ok (.istore_n 2, 1) := by decide +kernel
theorem dX3_allowsGuessed_2 : decode cX3_allowsGuessed 2 = .ok (.iload_n 2, 1) := by decide +kernel
theorem dX3_allowsGuessed_3 : decode cX3_allowsGuessed 3 = .ok (.aload_n 0, 1) := by decide +kernel
theorem dX3_allowsGuessed_4 : decode cX3_allowsGuessed 4 = .ok (.getfield 32, 3) := by decide +kernel
theorem dX3_allowsGuessed_7 : decode cX3_allowsGuessed 7 = .ok (.if_icmp .ge 43, 3) := by decide +kernel
theorem dX3_allowsGuessed_10 : decode cX3_allowsGuessed 10 = .ok (.iload_n 1, 1) := by decide +kernel
theorem dX3_allowsGuessed_11 : decode cX3_allowsGuessed 11 = .ok (.aload_n 0, 1) := by decide +kernel
theorem dX3_allowsGuessed_12 : decode cX3_allowsGuessed 12 = .ok (.getfield 22, 3) := by decide +kernel
theorem dX3_allowsGuessed_15 : decode cX3_allowsGuessed 15 = .ok (.iload_n 2, 1) := by decide +kernel
theorem dX3_allowsGuessed_16 : decode cX3_allowsGuessed 16 = .ok (.iaload, 1) := by decide +kernel
theorem dX3_allowsGuessed_17 : decode cX3_allowsGuessed 17 = .ok (.iconst 1, 1) := by decide +kernel
theorem dX3_allowsGuessed_18 : decode cX3_allowsGuessed 18 = .ok (.ishr, 1) := by decide +kernel
theorem dX3_allowsGuessed_19 : decode cX3_allowsGuessed 19 = .ok (.invokestatic 45, 3) := by decide +kernel
theorem dX3_allowsGuessed_22 : decode cX3_allowsGuessed 22 = .ok (.aload_n 0, 1) := by decide +kernel
theorem dX3_allowsGuessed_23 : decode cX3_allowsGuessed 23 = .ok (.getfield 22, 3) := by decide +kernel
theorem dX3_allowsGuessed_26 : decode cX3_allowsGuessed 26 = .ok (.iload_n 2, 1) := by decide +kernel
theorem dX3_allowsGuessed_27 : decode cX3_allowsGuessed 27 = .ok (.iaload, 1) := by decide +kernel
theorem dX3_allowsGuessed_28 : decode cX3_allowsGuessed 28 = .ok (.iconst 1, 1) := by decide +kernel
theorem dX3_allowsGuessed_29 : decode cX3_allowsGuessed 29 = .ok (.iand, 1) := by decide +kernel
theorem dX3_allowsGuessed_30 : decode cX3_allowsGuessed 30 = .ok (.iconst 1, 1) := by decide +kernel
theorem dX3_allowsGuessed_31 : decode cX3_allowsGuessed 31 = .ok (.if_icmp .ne 7, 3) := by decide +kernel
theorem dX3_allowsGuessed_34 : decode cX3_allowsGuessed 34 = .ok (.iconst 1, 1) := by decide +kernel
theorem dX3_allowsGuessed_35 : decode cX3_allowsGuessed 35 = .ok (.goto 4, 3) := by decide +kernel
theorem dX3_allowsGuessed_38 : decode cX3_allowsGuessed 38 = .ok (.iconst 0, 1) := by decide +kernel
theorem dX3_allowsGuessed_39 : decode cX3_allowsGuessed 39 = .ok (.if_icmp .eq 5, 3) := by decide +kernel
theorem dX3_allowsGuessed_42 : decode cX3_allowsGuessed 42 = .ok (.iconst 0, 1) := by decide +kernel
theorem dX3_allowsGuessed_43 : decode cX3_allowsGuessed 43 = .ok (.ireturn, 1) := by decide +kernel
theorem dX3_allowsGuessed_44 : decode cX3_allowsGuessed 44 = .ok (.iinc 2 1, 3) := by decide +kernel
theorem dX3_allowsGuessed_47 : decode cX3_allowsGuessed 47 = .ok (.goto (-45), 3) := by decide +kernel
theorem dX3_allowsGuessed_50 : decode cX3_allowsGuessed 50 = .ok (.iconst 1, 1) := by decide +kernel
theorem dX3_allowsGuessed_51 : decode cX3_allowsGuessed 51 = .ok (.ireturn, 1) := by decide +kernel
theorem dX11_fits_0 : decode cX11_fits 0 = .ok (.iconst 0, 1) := by decide +kernel
theorem dX11_fits_1 : decode cX11_fits 1 = .ok (.istore_n 1, 1) := by decide +kernel
theorem dX11_fits_2 : decode cX11_fits 2 = .ok (.iconst 0, 1) := by decide +kernel
theorem dX11_fits_3 : decode cX11_fits 3 = .ok (.istore_n 2, 1) := by decide +kernel
theorem dX11_fits_4 : decode cX11_fits 4 = .ok (.iload_n 2, 1) := by decide +kernel
theorem dX11_fits_5 : decode cX11_fits 5 = .ok (.aload_n 0, 1) := by decide +kernel
theorem dX11_fits_6 : decode cX11_fits 6 = .ok (.getfield 65, 3) := by decide +kernel
theorem dX11_fits_9 : decode cX11_fits 9 = .ok (.getfield 108, 3) := by decide +kernel
theorem dX11_fits_12 : decode cX11_fits 12 = .ok (.if_icmp .ge 34, 3) := by decide +kernel
theorem dX11_fits_15 : decode cX11_fits 15 = .ok (.aload_n 0, 1) := by decide +kernel
theorem dX11_fits_16 : decode cX11_fits 16 = .ok (.getfield 26, 3) := by decide +kernel
theorem dX11_fits_19 : decode cX11_fits 19 = .ok (.aload_n 0, 1) := by decide +kernel
theorem dX11_fits_20 : decode cX11_fits 20 = .ok (.getfield 65, 3) := by decide +kernel
theorem dX11_fits_23 : decode cX11_fits 23 = .ok (.getfield 128, 3) := by decide +kernel
theorem dX11_fits_26 : decode cX11_fits 26 = .ok (.iload_n 2, 1) := by decide +kernel
theorem dX11_fits_27 : decode cX11_fits 27 = .ok (.iaload, 1) := by decide +kernel
theorem dX11_fits_28 : decode cX11_fits 28 = .ok (.invokevirtual 314, 3) := by decide +kernel
theorem dX11_fits_31 : decode cX11_fits 31 = .ok (.ifCond .eq 9, 3) := by decide +kernel
theorem dX11_fits_34 : decode cX11_fits 34 = .ok (.iload_n 1, 1) := by decide +kernel
theorem dX11_fits_35 : decode cX11_fits 35 = .ok (.iconst 1, 1) := by decide +kernel
theorem dX11_fits_36 : decode cX11_fits 36 = .ok (.iload_n 2, 1) := by decide +kernel
theorem dX11_fits_37 : decode cX11_fits 37 = .ok (.ishl, 1) := by decide +kernel
theorem dX11_fits_38 : decode cX11_fits 38 = .ok (.ior, 1) := by decide +kernel
theorem dX11_fits_39 : decode cX11_fits 39 = .ok (.istore_n 1, 1) := by decide +kernel
theorem dX11_fits_40 : decode cX11_fits 40 = .ok (.iinc 2 1, 3) := by decide +kernel
theorem dX11_fits_43 : decode cX11_fits 43 = .ok (.goto (-39), 3) := by decide +kernel
theorem dX11_fits_46 : decode cX11_fits 46 = .ok (.iload_n 1, 1) := by decide +kernel
theorem dX11_fits_47 : decode cX11_fits 47 = .ok (.ireturn, 1) := by decide +kernel
theorem dX12_fitting_0 : decode cX12_fitting 0 = .ok (.iconst 0, 1) := by decide +kernel
theorem dX12_fitting_1 : decode cX12_fitting 1 = .ok (.istore_n 1, 1) := by decide +kernel
theorem dX12_fitting_2 : decode cX12_fitting 2 = .ok (.iconst 0, 1) := by decide +kernel
theorem dX12_fitting_3 : decode cX12_fitting 3 = .ok (.istore_n 2, 1) := by decide +kernel
theorem dX12_fitting_4 : decode cX12_fitting 4 = .ok (.iload_n 2, 1) := by decide +kernel
theorem dX12_fitting_5 : decode cX12_fitting 5 = .ok (.aload_n 0, 1) := by decide +kernel
theorem dX12_fitting_6 : decode cX12_fitting 6 = .ok (.getfield 13, 3) := by decide +kernel
theorem dX12_fitting_9 : decode cX12_fitting 9 = .ok (.iconst 0, 1) := by decide +kernel
theorem dX12_fitting_10 : decode cX12_fitting 10 = .ok (.iaload, 1) := by decide +kernel
theorem dX12_fitting_11 : decode cX12_fitting 11 = .ok (.if_icmp .ge 90, 3) := by decide +kernel
theorem dX12_fitting_14 : decode cX12_fitting 14 = .ok (.iconst 1, 1) := by decide +kernel
theorem dX12_fitting_15 : decode cX12_fitting 15 = .ok (.istore_n 3, 1) := by decide +kernel
theorem dX12_fitting_16 : decode cX12_fitting 16 = .ok (.iconst 0, 1) := by decide +kernel
theorem dX12_fitting_17 : decode cX12_fitting 17 = .ok (.istore 4, 2) := by decide +kernel
theorem dX12_fitting_19 : decode cX12_fitting 19 = .ok (.iload 4, 2) := by decide +kernel
theorem dX12_fitting_21 : decode cX12_fitting 21 = .ok (.aload_n 0, 1) := by decide +kernel
theorem dX12_fitting_22 : decode cX12_fitting 22 = .ok (.getfield 93, 3) := by decide +kernel
theorem dX12_fitting_25 : decode cX12_fitting 25 = .ok (.iconst 0, 1) := by decide +kernel
theorem dX12_fitting_26 : decode cX12_fitting 26 = .ok (.iaload, 1) := by decide +kernel
theorem dX12_fitting_27 : decode cX12_fitting 27 = .ok (.if_icmp .ge 54, 3) := by decide +kernel
theorem dX12_fitting_30 : decode cX12_fitting 30 = .ok (.iload_n 3, 1) := by decide +kernel
theorem dX12_fitting_31 : decode cX12_fitting 31 = .ok (.ifCond .eq 42, 3) := by decide +kernel
theorem dX12_fitting_34 : decode cX12_fitting 34 = .ok (.aload_n 0, 1) := by decide +kernel
theorem dX12_fitting_35 : decode cX12_fitting 35 = .ok (.getfield 29, 3) := by decide +kernel
theorem dX12_fitting_38 : decode cX12_fitting 38 = .ok (.iload_n 2, 1) := by decide +kernel
theorem dX12_fitting_39 : decode cX12_fitting 39 = .ok (.iaload, 1) := by decide +kernel
theorem dX12_fitting_40 : decode cX12_fitting 40 = .ok (.aload_n 0, 1) := by decide +kernel
theorem dX12_fitting_41 : decode cX12_fitting 41 = .ok (.getfield 96, 3) := by decide +kernel
theorem dX12_fitting_44 : decode cX12_fitting 44 = .ok (.iload 4, 2) := by decide +kernel
theorem dX12_fitting_46 : decode cX12_fitting 46 = .ok (.iaload, 1) := by decide +kernel
theorem dX12_fitting_47 : decode cX12_fitting 47 = .ok (.ishr, 1) := by decide +kernel
theorem dX12_fitting_48 : decode cX12_fitting 48 = .ok (.iconst 1, 1) := by decide +kernel
theorem dX12_fitting_49 : decode cX12_fitting 49 = .ok (.iand, 1) := by decide +kernel
theorem dX12_fitting_50 : decode cX12_fitting 50 = .ok (.iconst 1, 1) := by decide +kernel
theorem dX12_fitting_51 : decode cX12_fitting 51 = .ok (.if_icmp .ne 7, 3) := by decide +kernel
theorem dX12_fitting_54 : decode cX12_fitting 54 = .ok (.iconst 1, 1) := by decide +kernel
theorem dX12_fitting_55 : decode cX12_fitting 55 = .ok (.goto 4, 3) := by decide +kernel
theorem dX12_fitting_58 : decode cX12_fitting 58 = .ok (.iconst 0, 1) := by decide +kernel
theorem dX12_fitting_59 : decode cX12_fitting 59 = .ok (.aload_n 0, 1) := by decide +kernel
theorem dX12_fitting_60 : decode cX12_fitting 60 = .ok (.getfield 99, 3) := by decide +kernel
theorem dX12_fitting_63 : decode cX12_fitting 63 = .ok (.iload 4, 2) := by decide +kernel
theorem dX12_fitting_65 : decode cX12_fitting 65 = .ok (.baload, 1) := by decide +kernel
theorem dX12_fitting_66 : decode cX12_fitting 66 = .ok (.if_icmp .ne 7, 3) := by decide +kernel
theorem dX12_fitting_69 : decode cX12_fitting 69 = .ok (.iconst 1, 1) := by decide +kernel
theorem dX12_fitting_70 : decode cX12_fitting 70 = .ok (.goto 4, 3) := by decide +kernel
theorem dX12_fitting_73 : decode cX12_fitting 73 = .ok (.iconst 0, 1) := by decide +kernel
theorem dX12_fitting_74 : decode cX12_fitting 74 = .ok (.istore_n 3, 1) := by decide +kernel
theorem dX12_fitting_75 : decode cX12_fitting 75 = .ok (.iinc 4 1, 3) := by decide +kernel
theorem dX12_fitting_78 : decode cX12_fitting 78 = .ok (.goto (-59), 3) := by decide +kernel
theorem dX12_fitting_81 : decode cX12_fitting 81 = .ok (.iload_n 1, 1) := by decide +kernel
theorem dX12_fitting_82 : decode cX12_fitting 82 = .ok (.iload_n 3, 1) := by decide +kernel
theorem dX12_fitting_83 : decode cX12_fitting 83 = .ok (.ifCond .eq 9, 3) := by decide +kernel
theorem dX12_fitting_86 : decode cX12_fitting 86 = .ok (.iconst 1, 1) := by decide +kernel
theorem dX12_fitting_87 : decode cX12_fitting 87 = .ok (.iload_n 2, 1) := by decide +kernel
theorem dX12_fitting_88 : decode cX12_fitting 88 = .ok (.ishl, 1) := by decide +kernel
theorem dX12_fitting_89 : decode cX12_fitting 89 = .ok (.goto 4, 3) := by decide +kernel
theorem dX12_fitting_92 : decode cX12_fitting 92 = .ok (.iconst 0, 1) := by decide +kernel
theorem dX12_fitting_93 : decode cX12_fitting 93 = .ok (.ior, 1) := by decide +kernel
theorem dX12_fitting_94 : decode cX12_fitting 94 = .ok (.istore_n 1, 1) := by decide +kernel
theorem dX12_fitting_95 : decode cX12_fitting 95 = .ok (.iinc 2 1, 3) := by decide +kernel
theorem dX12_fitting_98 : decode cX12_fitting 98 = .ok (.goto (-94), 3) := by decide +kernel
theorem dX12_fitting_101 : decode cX12_fitting 101 = .ok (.iload_n 1, 1) := by decide +kernel
theorem dX12_fitting_102 : decode cX12_fitting 102 = .ok (.ireturn, 1) := by decide +kernel
theorem dX12_fits_0 : decode cX12_fits 0 = .ok (.aload_n 0, 1) := by decide +kernel
theorem dX12_fits_1 : decode cX12_fits 1 = .ok (.iconst 0, 1) := by decide +kernel
theorem dX12_fits_2 : decode cX12_fits 2 = .ok (.putfield 143, 3) := by decide +kernel
theorem dX12_fits_5 : decode cX12_fits 5 = .ok (.aload_n 0, 1) := by decide +kernel
theorem dX12_fits_6 : decode cX12_fits 6 = .ok (.invokevirtual 471, 3) := by decide +kernel
theorem dX12_fits_9 : decode cX12_fits 9 = .ok (.ireturn, 1) := by decide +kernel
set_option maxHeartbeats 4000000 in
set_option maxRecDepth 100000 in
theorem lp_allows {γ : kΓ} {l : Launch} {p9 : Program} {e : Env} {s : State} {m : MethodId} {below : List Frame} {meth : Method} {c : Code} {A : Nat → Prop} (x2 : Nat) (st9 : Nat) (yr9 : Nat) (ag9 : Nat) (li9 : Int32) (la9 : Int32) (gf : Nat → Int32) (G : Nat) (fol : Int32) (hG : G ≤ 8) (hC : kC γ p9 s m [.ref x2, .int fol].toArray c cX3_allowsGuessed 3 RX3 A) (hr : meth.sig.returnType = (some .boolean)) (hlocks : meth.locks = false) : ∀ (k : Nat) (i : Nat), G - i < k → (i ≤ G) → (alF fol gf i = 1) → ∀ (H : Heap) (locs : List Loc), kW γ A [(x2, .inr (3, [.ref st9, .ref yr9, .ref ag9, .int li9, .int (nI G), .int la9])), (ag9, .inl (γ.2.1 0, 8, .inl gf))] s H locs → ∀ ls : Array Slot, lv_has ls 3 [(2, .int (nI i)), (0, .ref x2), (1, .int fol)] → W p9 l e ({ frames := 1, cells := 0, slots := 0, locals := 21 } : Room) s m [.ref x2, .int fol].toArray below meth c H locs 0 0 (MQ below (kQ γ A (fun r w1 => r = some (.int (alF fol gf G)) ∧ w1 = [(x2, .inr (3, [.ref st9, .ref yr9, .ref ag9, .int li9, .int (nI G), .int la9])), (ag9, .inl (γ.2.1 0, 8, .inl gf))])) [.ref x2, .int fol].toArray s 0 0 A) (F0 m 2 ls []) := by
  have hx := hC.1
  have hb := hC.2.1
  intro k
  induction k with
  | zero => intro i hk; exact absurd hk (Nat.not_lt_zero _)
  | succ k ih =>
    intro i hk hi hal H locs hw ls hl
    refine lv_iload_n hx hb dX3_allowsGuessed_2 rfl (lv_at hl 0 rfl) ?_
    refine lv_aload_n hx hb dX3_allowsGuessed_3 rfl (lv_at hl 1 rfl) ?_
    refine fg_RX3_32 hC hw 0 rfl rfl dX3_allowsGuessed_4 ?_
    refine lv_icmp_ge (tgt := 50) hx hb dX3_allowsGuessed_7 (by decide) (fun c1 => ?_) (fun c1 => ?_)
    · have hi9 : i = G := by have h9 := (nI_leI (a := G) (b := i) (by omega) (by omega)).mp c1; omega
      refine lv_iconst (v := 1) hx hb dX3_allowsGuessed_50 (by decide) ?_
      have hE : (alF fol gf G) = 1 := by rw [← hi9]; exact hal
      refine W.eq (g2 := F0 m 51 ls [.int (alF fol gf G)]) (by rw [hE]) ?_
      exact k_zret hC hr hlocks alF_z hw [0, 1] rfl rfl ⟨rfl, rfl⟩ (by decide) (by decide) dX3_allowsGuessed_51
    · have hi9 : i < G := by rcases Nat.lt_or_ge i G with h9 | h9; exact h9; exact absurd (nI_le h9 (by omega)) c1
      refine lv_iload_n hx hb dX3_allowsGuessed_10 rfl (lv_at hl 2 rfl) ?_
      refine lv_aload_n hx hb dX3_allowsGuessed_11 rfl (lv_at hl 1 rfl) ?_
      refine fg_RX3_22 hC hw 0 rfl rfl dX3_allowsGuessed_12 ?_
      refine lv_iload_n hx hb dX3_allowsGuessed_15 rfl (lv_at hl 0 rfl) ?_
      refine k_iald hC hw 1 rfl (vp_in_nI (by omega) (by decide)) dX3_allowsGuessed_16 ?_
      refine lv_topi (fun x_55 ex_55 => ?_)
      obtain rfl : x_55 = gf i := (show x_55 = gf (nI i : Int32).toNatClampNeg from ex_55).trans (by rw [nI_clamp (by omega)])
      refine lv_iconst (v := 1) hx hb dX3_allowsGuessed_17 (by decide) ?_
      refine lv_ishr hx hb dX3_allowsGuessed_18 ?_
      refine k_SN (wr := [(x2, .inr (3, [.ref st9, .ref yr9, .ref ag9, .int li9, .int (nI G), .int la9])), (ag9, .inl (γ.2.1 0, 8, .inl gf))]) 2 nw_1010 gw_556 gw_1 gw_557 hd_X11_isIn hC hw (c_isIn γ l fol ((gf i) >>> (1 &&& 31))) ⟨by decide, by decide⟩ ⟨by decide, by decide⟩ hl.1 rfl rfl (Nat.le_of_ble_eq_true rfl) [] [0, 1] rfl rfl rfl rfl (by decide) dX3_allowsGuessed_19 (fun r w1 H locs hq hw => ?_)
      obtain ⟨rfl, rfl⟩ := hq
      have hw : kW γ A [(x2, .inr (3, [.ref st9, .ref yr9, .ref ag9, .int li9, .int (nI G), .int la9])), (ag9, .inl (γ.2.1 0, 8, .inl gf))] s H locs := hw
      refine W.eq (g2 := F0 m 22 ls [.int (F_isIn fol ((gf i) >>> (1 &&& 31)))]) rfl ?_
      refine lv_aload_n hx hb dX3_allowsGuessed_22 rfl (lv_at hl 1 rfl) ?_
      refine fg_RX3_22 hC hw 0 rfl rfl dX3_allowsGuessed_23 ?_
      refine lv_iload_n hx hb dX3_allowsGuessed_26 rfl (lv_at hl 0 rfl) ?_
      refine k_iald hC hw 1 rfl (vp_in_nI (by omega) (by decide)) dX3_allowsGuessed_27 ?_
      refine lv_topi (fun x_56 ex_56 => ?_)
      obtain rfl : x_56 = gf i := (show x_56 = gf (nI i : Int32).toNatClampNeg from ex_56).trans (by rw [nI_clamp (by omega)])
      refine lv_iconst (v := 1) hx hb dX3_allowsGuessed_28 (by decide) ?_
      refine lv_iand hx hb dX3_allowsGuessed_29 ?_
      refine lv_iconst (v := 1) hx hb dX3_allowsGuessed_30 (by decide) ?_
      refine lv_icmp_ne (tgt := 38) hx hb dX3_allowsGuessed_31 (by decide) (fun c2 => ?_) (fun c2 => ?_)
      · refine lv_iconst (v := 0) hx hb dX3_allowsGuessed_38 (by decide) ?_
        refine lv_icmp_eq (tgt := 44) hx hb dX3_allowsGuessed_39 (by decide) (fun c3 => ?_) (fun c3 => ?_)
        · have hE1 : alF fol gf (i + 1) = 1 := by rw [alF_s, if_neg c2, if_pos c3]; exact hal
          refine lv_iinc (v := (nI (i + 1))) (lv' := [(2, .int (nI (i + 1))), (0, .ref x2), (1, .int fol)]) hx hb dX3_allowsGuessed_44 hl (k := 0) rfl (nI_1 i) (by decide) rfl (fun ls hl => ?_)
          refine lv_goto (tgt := 2) hx hb dX3_allowsGuessed_47 (by decide) ?_
          exact ih (i + 1) (by omega) (by omega) hE1 _ _ (kW.sub hw [0, 1] rfl rfl) _ (lv_sub hl [0, 1, 2] rfl)
        · have hE1 : alF fol gf (i + 1) = 0 := by rw [alF_s, if_neg c2, if_neg c3]
          refine lv_iconst (v := 0) hx hb dX3_allowsGuessed_42 (by decide) ?_
          have hE : (alF fol gf G) = 0 := alF_0 hE1 G (by omega)
          refine W.eq (g2 := F0 m 43 ls [.int (alF fol gf G)]) (by rw [hE]) ?_
          exact k_zret hC hr hlocks alF_z hw [0, 1] rfl rfl ⟨rfl, rfl⟩ (by decide) (by decide) dX3_allowsGuessed_43
      · refine lv_iconst (v := 1) hx hb dX3_allowsGuessed_34 (by decide) ?_
        refine lv_goto (tgt := 39) hx hb dX3_allowsGuessed_35 (by decide) ?_
        refine lv_icmp_eq (tgt := 44) hx hb dX3_allowsGuessed_39 (by decide) (fun c3 => ?_) (fun c3 => ?_)
        · have hE1 : alF fol gf (i + 1) = 1 := by rw [alF_s, if_pos c2, if_pos c3]; exact hal
          refine lv_iinc (v := (nI (i + 1))) (lv' := [(2, .int (nI (i + 1))), (0, .ref x2), (1, .int fol)]) hx hb dX3_allowsGuessed_44 hl (k := 0) rfl (nI_1 i) (by decide) rfl (fun ls hl => ?_)
          refine lv_goto (tgt := 2) hx hb dX3_allowsGuessed_47 (by decide) ?_
          exact ih (i + 1) (by omega) (by omega) hE1 _ _ (kW.sub hw [0, 1] rfl rfl) _ (lv_sub hl [0, 1, 2] rfl)
        · have hE1 : alF fol gf (i + 1) = 0 := by rw [alF_s, if_pos c2, if_neg c3]
          refine lv_iconst (v := 0) hx hb dX3_allowsGuessed_42 (by decide) ?_
          have hE : (alF fol gf G) = 0 := alF_0 hE1 G (by omega)
          refine W.eq (g2 := F0 m 43 ls [.int (alF fol gf G)]) (by rw [hE]) ?_
          exact k_zret hC hr hlocks alF_z hw [0, 1] rfl rfl ⟨rfl, rfl⟩ (by decide) (by decide) dX3_allowsGuessed_43

set_option maxHeartbeats 4000000 in
set_option maxRecDepth 100000 in
theorem c_allows (γ : kΓ) (l : Launch) (x2 : Nat) (st9 : Nat) (yr9 : Nat) (ag9 : Nat) (li9 : Int32) (la9 : Int32) (gf : Nat → Int32) (G : Nat) (fol : Int32) (hG : G ≤ 8) : kM γ l yX3_allowsGuessed cX3_allowsGuessed 3 ((some .boolean)) ({ frames := 1, cells := 0, slots := 0, locals := 21 } : Room) [.ref x2, .int fol] [(x2, .inr (3, [.ref st9, .ref yr9, .ref ag9, .int li9, .int (nI G), .int la9])), (ag9, .inl (γ.2.1 0, 8, .inl gf))] (fun r w1 => r = some (.int (alF fol gf G)) ∧ w1 = [(x2, .inr (3, [.ref st9, .ref yr9, .ref ag9, .int li9, .int (nI G), .int la9])), (ag9, .inl (γ.2.1 0, 8, .inl gf))]) := by
  refine k_ofW (by decide) (Nat.le_of_ble_eq_true rfl) ?_
  intro p9 e s m below meth c A ls hC hr hlocks hname hw hl
  have hx := hC.1
  have hb := hC.2.1
  have hl : lv_has ls 3 [(0, .ref x2), (1, .int fol)] := hl
  refine lv_iconst (v := 0) hx hb dX3_allowsGuessed_0 (by decide) ?_
  refine lv_istore_n (lv' := [(2, .int 0), (0, .ref x2), (1, .int fol)]) hx hb dX3_allowsGuessed_1 rfl hl (by decide) rfl (fun ls hl => ?_)
  exact lp_allows x2 st9 yr9 ag9 li9 la9 gf G fol hG hC hr hlocks (G + 1) 0 (by omega) (Nat.zero_le G) rfl _ _ hw _ (lv_sub hl [0, 1, 2] rfl)

set_option maxHeartbeats 4000000 in
set_option maxRecDepth 100000 in
theorem lp_X11_fits {γ : kΓ} {l : Launch} {p9 : Program} {e : Env} {s : State} {m : MethodId} {below : List Frame} {meth : Method} {c : Code} {A : Nat → Prop} (x : Nat) (x0 : Nat) (x1 : Nat) (x3 : Nat) (x4 : Nat) (x5 : Nat) (x6 : Nat) (x7 : Nat) (x8 : Nat) (x9 : Nat) (x10 : Nat) (a0 : Nat) (a1 : Nat) (a2 : Nat) (a3 : Nat) (a4 : Nat) (a5 : Nat) (a6 : Nat) (a7 : Nat) (T : Nat) (t9 : Int32) (t10 : Int32) (t11 : Int32) (t12 : Int32) (t13 : Int32) (t14 : Int32) (t15 : Int32) (t16 : Int32) (t17 : Int32) (t18 : Int32) (af : Nat → Int32) (x2 : Nat) (st9 : Nat) (yr9 : Nat) (ag9 : Nat) (li9 : Int32) (la9 : Int32) (gf : Nat → Int32) (G : Nat) (hT : T ≤ 8) (hG : G ≤ 8) (hC : kC γ p9 s m [.ref x].toArray c cX11_fits 3 RX11 A) (hr : meth.sig.returnType = (some .int)) (hlocks : meth.locks = false) : ∀ (k : Nat) (i : Nat), T - i < k → (i ≤ T) → ∀ (H : Heap) (locs : List Loc), kW γ A [(x, .inr (10, [.ref x0, .ref x1, .ref x2, .ref x3, .ref x4, .ref x5, .ref x6, .ref x7, .ref x8, .ref x9, .ref x10])), (x9, .inr (0, [.ref a0, .ref a1, .ref a2, .ref a3, .ref a4, .ref a5, .ref a6, .ref a7, .int (nI T), .int t9, .int t10, .int t11, .int t12, .int t13, .int t14, .int t15, .int t16, .int t17, .int t18])), (a3, .inl (γ.2.1 0, 8, .inl af)), (x2, .inr (3, [.ref st9, .ref yr9, .ref ag9, .int li9, .int (nI G), .int la9])), (ag9, .inl (γ.2.1 0, 8, .inl gf))] s H locs → ∀ ls : Array Slot, lv_has ls 3 [(2, .int (nI i)), (1, .int (fiF af gf G i)), (0, .ref x)] → W p9 l e ({ frames := 2, cells := 0, slots := 0, locals := 43 } : Room) s m [.ref x].toArray below meth c H locs 0 0 (MQ below (kQ γ A (fun r w1 => r = some (.int (fiF af gf G T)) ∧ w1 = [(x, .inr (10, [.ref x0, .ref x1, .ref x2, .ref x3, .ref x4, .ref x5, .ref x6, .ref x7, .ref x8, .ref x9, .ref x10])), (x9, .inr (0, [.ref a0, .ref a1, .ref a2, .ref a3, .ref a4, .ref a5, .ref a6, .ref a7, .int (nI T), .int t9, .int t10, .int t11, .int t12, .int t13, .int t14, .int t15, .int t16, .int t17, .int t18])), (a3, .inl (γ.2.1 0, 8, .inl af)), (x2, .inr (3, [.ref st9, .ref yr9, .ref ag9, .int li9, .int (nI G), .int la9])), (ag9, .inl (γ.2.1 0, 8, .inl gf))])) [.ref x].toArray s 0 0 A) (F0 m 4 ls []) := by
  have hx := hC.1
  have hb := hC.2.1
  intro k
  induction k with
  | zero => intro i hk; exact absurd hk (Nat.not_lt_zero _)
  | succ k ih =>
    intro i hk hi H locs hw ls hl
    refine lv_iload_n hx hb dX11_fits_4 rfl (lv_at hl 0 rfl) ?_
    refine lv_aload_n hx hb dX11_fits_5 rfl (lv_at hl 2 rfl) ?_
    refine fg_RX11_65 hC hw 0 rfl rfl dX11_fits_6 ?_
    refine fg_RX11_108 hC hw 1 rfl rfl dX11_fits_9 ?_
    refine lv_icmp_ge (tgt := 46) hx hb dX11_fits_12 (by decide) (fun c1 => ?_) (fun c1 => ?_)
    · have hi9 : i = T := by have h9 := (nI_leI (a := T) (b := i) (by omega) (by omega)).mp c1; omega
      rw [hi9] at hl
      refine lv_iload_n hx hb dX11_fits_46 rfl (lv_at hl 1 rfl) ?_
      exact k_iret hC hr hlocks hw [0, 1, 2, 3, 4] rfl rfl ⟨rfl, rfl⟩ (by decide) (by decide) dX11_fits_47
    · have hi9 : i < T := by rcases Nat.lt_or_ge i T with h9 | h9; exact h9; exact absurd (nI_le h9 (by omega)) c1
      refine lv_aload_n hx hb dX11_fits_15 rfl (lv_at hl 2 rfl) ?_
      refine fg_RX11_26 hC hw 0 rfl rfl dX11_fits_16 ?_
      refine lv_aload_n hx hb dX11_fits_19 rfl (lv_at hl 2 rfl) ?_
      refine fg_RX11_65 hC hw 0 rfl rfl dX11_fits_20 ?_
      refine fg_RX11_128 hC hw 1 rfl rfl dX11_fits_23 ?_
      refine lv_iload_n hx hb dX11_fits_26 rfl (lv_at hl 0 rfl) ?_
      refine k_iald hC hw 2 rfl (vp_in_nI (by omega) (by decide)) dX11_fits_27 ?_
      refine lv_topi (fun x_57 ex_57 => ?_)
      obtain rfl : x_57 = af i := (show x_57 = af (nI i : Int32).toNatClampNeg from ex_57).trans (by rw [nI_clamp (by omega)])
      refine k_V (wr := [(x, .inr (10, [.ref x0, .ref x1, .ref x2, .ref x3, .ref x4, .ref x5, .ref x6, .ref x7, .ref x8, .ref x9, .ref x10])), (x9, .inr (0, [.ref a0, .ref a1, .ref a2, .ref a3, .ref a4, .ref a5, .ref a6, .ref a7, .int (nI T), .int t9, .int t10, .int t11, .int t12, .int t13, .int t14, .int t15, .int t16, .int t17, .int t18])), (a3, .inl (γ.2.1 0, 8, .inl af))]) 1 gw_1006 gw_1007 gw_1008 gw_8 gw_1009 hd_X3_allowsGuessed hC hw (c_allows γ l x2 st9 yr9 ag9 li9 la9 gf G (af i) hG) ⟨by decide, by decide⟩ ⟨by decide, by decide⟩ hl.1 rfl 3 rfl rfl rfl (Nat.le_of_ble_eq_true rfl) [3, 4] [0, 1, 2] rfl rfl rfl rfl (by decide) dX11_fits_28 (fun r w1 H locs hq hw => ?_)
      obtain ⟨rfl, rfl⟩ := hq
      have hw : kW γ A [(x, .inr (10, [.ref x0, .ref x1, .ref x2, .ref x3, .ref x4, .ref x5, .ref x6, .ref x7, .ref x8, .ref x9, .ref x10])), (x9, .inr (0, [.ref a0, .ref a1, .ref a2, .ref a3, .ref a4, .ref a5, .ref a6, .ref a7, .int (nI T), .int t9, .int t10, .int t11, .int t12, .int t13, .int t14, .int t15, .int t16, .int t17, .int t18])), (a3, .inl (γ.2.1 0, 8, .inl af)), (x2, .inr (3, [.ref st9, .ref yr9, .ref ag9, .int li9, .int (nI G), .int la9])), (ag9, .inl (γ.2.1 0, 8, .inl gf))] s H locs := hw
      refine W.eq (g2 := F0 m 31 ls [.int (alF (af i) gf G)]) rfl ?_
      refine lv_if_eq (tgt := 40) hx hb dX11_fits_31 (by decide) (fun c2 => ?_) (fun c2 => ?_)
      · rw [fiF_p c2] at hl
        refine lv_iinc (v := (nI (i + 1))) (lv' := [(2, .int (nI (i + 1))), (1, .int (fiF af gf G (i + 1))), (0, .ref x)]) hx hb dX11_fits_40 hl (k := 0) rfl (nI_1 i) (by decide) rfl (fun ls hl => ?_)
        refine lv_goto (tgt := 4) hx hb dX11_fits_43 (by decide) ?_
        exact ih (i + 1) (by omega) (by omega) _ _ (kW.sub hw [0, 1, 2, 3, 4] rfl rfl) _ (lv_sub hl [0, 1, 2] rfl)
      · refine lv_iload_n hx hb dX11_fits_34 rfl (lv_at hl 1 rfl) ?_
        refine lv_iconst (v := 1) hx hb dX11_fits_35 (by decide) ?_
        refine lv_iload_n hx hb dX11_fits_36 rfl (lv_at hl 0 rfl) ?_
        refine lv_ishl hx hb dX11_fits_37 ?_
        refine lv_ior hx hb dX11_fits_38 ?_
        refine lv_topi (fun x_58 ex_58 => ?_)
        obtain rfl : x_58 = (fiF af gf G (i + 1)) := ex_58.trans (fiF_n c2)
        refine lv_istore_n (lv' := [(1, .int (fiF af gf G (i + 1))), (2, .int (nI i)), (0, .ref x)]) hx hb dX11_fits_39 rfl hl (by decide) rfl (fun ls hl => ?_)
        refine lv_iinc (v := (nI (i + 1))) (lv' := [(2, .int (nI (i + 1))), (1, .int (fiF af gf G (i + 1))), (0, .ref x)]) hx hb dX11_fits_40 hl (k := 1) rfl (nI_1 i) (by decide) rfl (fun ls hl => ?_)
        refine lv_goto (tgt := 4) hx hb dX11_fits_43 (by decide) ?_
        exact ih (i + 1) (by omega) (by omega) _ _ (kW.sub hw [0, 1, 2, 3, 4] rfl rfl) _ (lv_sub hl [0, 1, 2] rfl)

set_option maxHeartbeats 4000000 in
set_option maxRecDepth 100000 in
theorem c_X11_fits (γ : kΓ) (l : Launch) (x : Nat) (x0 : Nat) (x1 : Nat) (x3 : Nat) (x4 : Nat) (x5 : Nat) (x6 : Nat) (x7 : Nat) (x8 : Nat) (x9 : Nat) (x10 : Nat) (a0 : Nat) (a1 : Nat) (a2 : Nat) (a3 : Nat) (a4 : Nat) (a5 : Nat) (a6 : Nat) (a7 : Nat) (T : Nat) (t9 : Int32) (t10 : Int32) (t11 : Int32) (t12 : Int32) (t13 : Int32) (t14 : Int32) (t15 : Int32) (t16 : Int32) (t17 : Int32) (t18 : Int32) (af : Nat → Int32) (x2 : Nat) (st9 : Nat) (yr9 : Nat) (ag9 : Nat) (li9 : Int32) (la9 : Int32) (gf : Nat → Int32) (G : Nat) (hT : T ≤ 8) (hG : G ≤ 8) : kM γ l yX11_fits cX11_fits 3 ((some .int)) ({ frames := 2, cells := 0, slots := 0, locals := 43 } : Room) [.ref x] [(x, .inr (10, [.ref x0, .ref x1, .ref x2, .ref x3, .ref x4, .ref x5, .ref x6, .ref x7, .ref x8, .ref x9, .ref x10])), (x9, .inr (0, [.ref a0, .ref a1, .ref a2, .ref a3, .ref a4, .ref a5, .ref a6, .ref a7, .int (nI T), .int t9, .int t10, .int t11, .int t12, .int t13, .int t14, .int t15, .int t16, .int t17, .int t18])), (a3, .inl (γ.2.1 0, 8, .inl af)), (x2, .inr (3, [.ref st9, .ref yr9, .ref ag9, .int li9, .int (nI G), .int la9])), (ag9, .inl (γ.2.1 0, 8, .inl gf))] (fun r w1 => r = some (.int (fiF af gf G T)) ∧ w1 = [(x, .inr (10, [.ref x0, .ref x1, .ref x2, .ref x3, .ref x4, .ref x5, .ref x6, .ref x7, .ref x8, .ref x9, .ref x10])), (x9, .inr (0, [.ref a0, .ref a1, .ref a2, .ref a3, .ref a4, .ref a5, .ref a6, .ref a7, .int (nI T), .int t9, .int t10, .int t11, .int t12, .int t13, .int t14, .int t15, .int t16, .int t17, .int t18])), (a3, .inl (γ.2.1 0, 8, .inl af)), (x2, .inr (3, [.ref st9, .ref yr9, .ref ag9, .int li9, .int (nI G), .int la9])), (ag9, .inl (γ.2.1 0, 8, .inl gf))]) := by
  refine k_ofW (by decide) (Nat.le_of_ble_eq_true rfl) ?_
  intro p9 e s m below meth c A ls hC hr hlocks hname hw hl
  have hx := hC.1
  have hb := hC.2.1
  have hl : lv_has ls 3 [(0, .ref x)] := hl
  refine lv_iconst (v := 0) hx hb dX11_fits_0 (by decide) ?_
  refine lv_istore_n (lv' := [(1, .int 0), (0, .ref x)]) hx hb dX11_fits_1 rfl hl (by decide) rfl (fun ls hl => ?_)
  refine lv_iconst (v := 0) hx hb dX11_fits_2 (by decide) ?_
  refine lv_istore_n (lv' := [(2, .int 0), (1, .int 0), (0, .ref x)]) hx hb dX11_fits_3 rfl hl (by decide) rfl (fun ls hl => ?_)
  exact lp_X11_fits x x0 x1 x3 x4 x5 x6 x7 x8 x9 x10 a0 a1 a2 a3 a4 a5 a6 a7 T t9 t10 t11 t12 t13 t14 t15 t16 t17 t18 af x2 st9 yr9 ag9 li9 la9 gf G hT hG hC hr hlocks (T + 1) 0 (by omega) (Nat.zero_le T) _ _ hw _ (lv_sub hl [0, 1, 2] rfl)

set_option maxHeartbeats 4000000 in
set_option maxRecDepth 100000 in
theorem lp_fitting {γ : kΓ} {l : Launch} {p9 : Program} {e : Env} {s : State} {m : MethodId} {below : List Frame} {meth : Method} {c : Code} {A : Nat → Prop} (z : Nat) (z2 : Nat) (z10 : Nat) (z11 : Nat) (z12 : Nat) (z13 : Nat) (z14 : Nat) (z15 : Nat) (z16 : Nat) (z17 : Nat) (z18 : Nat) (z19 : Nat) (z22 : Nat) (z23 : Nat) (z24 : Nat) (z25 : Nat) (z26 : Nat) (z27 : Nat) (z28 : Nat) (z29 : Nat) (z30 : Nat) (z31 : Nat) (z32 : Nat) (z33 : Nat) (z36 : Nat) (z37 : Nat) (z38 : Nat) (z39 : Nat) (z40 : Nat) (z41 : Nat) (z42 : Nat) (z43 : Nat) (z44 : Nat) (z45 : Nat) (z46 : Nat) (z47 : Nat) (z48 : Nat) (z55 : Nat) (z56 : Nat) (z59 : Nat) (z60 : Nat) (z61 : Nat) (n0 : Int32) (n1 : Int32) (n3 : Int32) (n4 : Int32) (n5 : Int32) (n6 : Int32) (n7 : Int64) (n8 : Int32) (n9 : Int32) (n20 : Int32) (n21 : Int32) (n34 : Int32) (n35 : Int64) (n49 : Int32) (n50 : Int32) (n51 : Int32) (n52 : Int32) (n53 : Int32) (n54 : Int32) (n57 : Int32) (n58 : Int32) (n62 : Int32) (n63 : Int64) (ab : Nat → Int32) (bh : Nat → Int32) (gs : Nat → Int32) (go : Nat → Int32) (gm : Nat → Int32) (T : Nat) (G : Nat) (h0 : ab 0 = nI T) (hg0 : gs 0 = nI G) (hT : T ≤ 8) (hG : G ≤ 8) (hC : kC γ p9 s m [.ref z].toArray c cX12_fitting 5 RX12 A) (hr : meth.sig.returnType = (some .int)) (hlocks : meth.locks = false) : ∀ (k : Nat) (i : Nat), T - i < k → (i ≤ T) → ∀ (H : Heap) (locs : List Loc), kW γ A [(z, .inr (11, [.int n0, .int n1, .ref z2, .int n3, .int n4, .int n5, .int n6, .long n7, .int n8, .int n9, .ref z10, .ref z11, .ref z12, .ref z13, .ref z14, .ref z15, .ref z16, .ref z17, .ref z18, .ref z19, .int n20, .int n21, .ref z22, .ref z23, .ref z24, .ref z25, .ref z26, .ref z27, .ref z28, .ref z29, .ref z30, .ref z31, .ref z32, .ref z33, .int n34, .long n35, .ref z36, .ref z37, .ref z38, .ref z39, .ref z40, .ref z41, .ref z42, .ref z43, .ref z44, .ref z45, .ref z46, .ref z47, .ref z48, .int n49, .int n50, .int n51, .int n52, .int n53, .int n54, .ref z55, .ref z56, .int n57, .int n58, .ref z59, .ref z60, .ref z61, .int n62, .long n63])), (z10, .inl (γ.2.1 0, 10, .inl ab)), (z15, .inl (γ.2.1 0, 16, .inl bh)), (z40, .inl (γ.2.1 0, 5, .inl gs)), (z41, .inl (γ.2.1 0, 40, .inl go)), (z42, .inl (γ.2.1 3, 40, .inl gm))] s H locs → ∀ ls : Array Slot, lv_has ls 5 [(2, .int (nI i)), (1, .int (miF bh go gm G i)), (0, .ref z)] → W p9 l e ({ frames := 0, cells := 0, slots := 0, locals := 0 } : Room) s m [.ref z].toArray below meth c H locs 0 0 (MQ below (kQ γ A (fun r w1 => r = some (.int (miF bh go gm G T)) ∧ w1 = [(z, .inr (11, [.int n0, .int n1, .ref z2, .int n3, .int n4, .int n5, .int n6, .long n7, .int n8, .int n9, .ref z10, .ref z11, .ref z12, .ref z13, .ref z14, .ref z15, .ref z16, .ref z17, .ref z18, .ref z19, .int n20, .int n21, .ref z22, .ref z23, .ref z24, .ref z25, .ref z26, .ref z27, .ref z28, .ref z29, .ref z30, .ref z31, .ref z32, .ref z33, .int n34, .long n35, .ref z36, .ref z37, .ref z38, .ref z39, .ref z40, .ref z41, .ref z42, .ref z43, .ref z44, .ref z45, .ref z46, .ref z47, .ref z48, .int n49, .int n50, .int n51, .int n52, .int n53, .int n54, .ref z55, .ref z56, .int n57, .int n58, .ref z59, .ref z60, .ref z61, .int n62, .long n63])), (z10, .inl (γ.2.1 0, 10, .inl ab)), (z15, .inl (γ.2.1 0, 16, .inl bh)), (z40, .inl (γ.2.1 0, 5, .inl gs)), (z41, .inl (γ.2.1 0, 40, .inl go)), (z42, .inl (γ.2.1 3, 40, .inl gm))])) [.ref z].toArray s 0 0 A) (F0 m 4 ls []) := by
  have hx := hC.1
  have hb := hC.2.1
  intro k
  induction k with
  | zero => intro i hk; exact absurd hk (Nat.not_lt_zero _)
  | succ k ih =>
    intro i hk hi H locs hw ls hl
    refine lv_iload_n hx hb dX12_fitting_4 rfl (lv_at hl 0 rfl) ?_
    refine lv_aload_n hx hb dX12_fitting_5 rfl (lv_at hl 2 rfl) ?_
    refine fg_RX12_13 hC hw 0 rfl rfl dX12_fitting_6 ?_
    refine lv_iconst (v := 0) hx hb dX12_fitting_9 (by decide) ?_
    refine k_iald hC hw 1 rfl (k_in0 (by decide)) dX12_fitting_10 ?_
    refine lv_topi (fun x_59 ex_59 => ?_)
    obtain rfl : x_59 = (nI T) := (show x_59 = ab 0 from ex_59).trans h0
    refine lv_icmp_ge (tgt := 101) hx hb dX12_fitting_11 (by decide) (fun c1 => ?_) (fun c1 => ?_)
    · have hi9 : i = T := by have h9 := (nI_leI (a := T) (b := i) (by omega) (by omega)).mp c1; omega
      rw [hi9] at hl
      refine lv_iload_n hx hb dX12_fitting_101 rfl (lv_at hl 1 rfl) ?_
      exact k_iret hC hr hlocks hw [0, 1, 2, 3, 4, 5] rfl rfl ⟨rfl, rfl⟩ (by decide) (by decide) dX12_fitting_102
    · have hi9 : i < T := by rcases Nat.lt_or_ge i T with h9 | h9; exact h9; exact absurd (nI_le h9 (by omega)) c1
      refine lv_iconst (v := 1) hx hb dX12_fitting_14 (by decide) ?_
      refine lv_istore_n (lv' := [(3, .int 1), (2, .int (nI i)), (1, .int (miF bh go gm G i)), (0, .ref z)]) hx hb dX12_fitting_15 rfl hl (by decide) rfl (fun ls hl => ?_)
      refine lv_iconst (v := 0) hx hb dX12_fitting_16 (by decide) ?_
      refine lv_istore (lv' := [(4, .int 0), (3, .int 1), (2, .int (nI i)), (1, .int (miF bh go gm G i)), (0, .ref z)]) hx hb dX12_fitting_17 hl (by decide) rfl (fun ls hl => ?_)
      have hin : ∀ (q j : Nat), j + q = G → ∀ ls : Array Slot, lv_has ls 5 [(4, .int (nI j)), (3, .int (mlF (bh i) go gm j)), (2, .int (nI i)), (1, .int (miF bh go gm G i)), (0, .ref z)] → W p9 l e ({ frames := 0, cells := 0, slots := 0, locals := 0 } : Room) s m [.ref z].toArray below meth c H locs 0 0 (MQ below (kQ γ A (fun r w1 => r = some (.int (miF bh go gm G T)) ∧ w1 = [(z, .inr (11, [.int n0, .int n1, .ref z2, .int n3, .int n4, .int n5, .int n6, .long n7, .int n8, .int n9, .ref z10, .ref z11, .ref z12, .ref z13, .ref z14, .ref z15, .ref z16, .ref z17, .ref z18, .ref z19, .int n20, .int n21, .ref z22, .ref z23, .ref z24, .ref z25, .ref z26, .ref z27, .ref z28, .ref z29, .ref z30, .ref z31, .ref z32, .ref z33, .int n34, .long n35, .ref z36, .ref z37, .ref z38, .ref z39, .ref z40, .ref z41, .ref z42, .ref z43, .ref z44, .ref z45, .ref z46, .ref z47, .ref z48, .int n49, .int n50, .int n51, .int n52, .int n53, .int n54, .ref z55, .ref z56, .int n57, .int n58, .ref z59, .ref z60, .ref z61, .int n62, .long n63])), (z10, .inl (γ.2.1 0, 10, .inl ab)), (z15, .inl (γ.2.1 0, 16, .inl bh)), (z40, .inl (γ.2.1 0, 5, .inl gs)), (z41, .inl (γ.2.1 0, 40, .inl go)), (z42, .inl (γ.2.1 3, 40, .inl gm))])) [.ref z].toArray s 0 0 A) (F0 m 19 ls []) := by
        intro q
        induction q with
        | zero =>
          intro j hj ls hl
          have hj9 : j = G := by omega
          refine lv_iload hx hb dX12_fitting_19 (lv_at hl 0 rfl) ?_
          refine lv_aload_n hx hb dX12_fitting_21 rfl (lv_at hl 4 rfl) ?_
          refine fg_RX12_93 hC hw 0 rfl rfl dX12_fitting_22 ?_
          refine lv_iconst (v := 0) hx hb dX12_fitting_25 (by decide) ?_
          refine k_iald hC hw 3 rfl (k_in0 (by decide)) dX12_fitting_26 ?_
          refine lv_topi (fun x_60 ex_60 => ?_)
          obtain rfl : x_60 = (nI G) := (show x_60 = gs 0 from ex_60).trans hg0
          refine lv_icmp_ge (tgt := 81) hx hb dX12_fitting_27 (by decide) (fun _ => ?_) (fun h => absurd (nI_le (a := G) (b := j) (by omega) (by omega)) h)
          rw [hj9] at hl
          refine lv_iload_n hx hb dX12_fitting_81 rfl (lv_at hl 3 rfl) ?_
          refine lv_iload_n hx hb dX12_fitting_82 rfl (lv_at hl 1 rfl) ?_
          refine lv_if_eq (tgt := 92) hx hb dX12_fitting_83 (by decide) (fun c7 => ?_) (fun c7 => ?_)
          · refine lv_iconst (v := 0) hx hb dX12_fitting_92 (by decide) ?_
            refine lv_ior hx hb dX12_fitting_93 ?_
            refine lv_topi (fun x_61 ex_61 => ?_)
            obtain rfl : x_61 = (miF bh go gm G (i + 1)) := ex_61.trans ((Int32.or_zero ..).trans (miF_p c7))
            refine lv_istore_n (lv' := [(1, .int (miF bh go gm G (i + 1))), (4, .int (nI G)), (3, .int (mlF (bh i) go gm G)), (2, .int (nI i)), (0, .ref z)]) hx hb dX12_fitting_94 rfl hl (by decide) rfl (fun ls hl => ?_)
            refine lv_iinc (v := (nI (i + 1))) (lv' := [(2, .int (nI (i + 1))), (1, .int (miF bh go gm G (i + 1))), (4, .int (nI G)), (3, .int (mlF (bh i) go gm G)), (0, .ref z)]) hx hb dX12_fitting_95 hl (k := 3) rfl (nI_1 i) (by decide) rfl (fun ls hl => ?_)
            refine lv_goto (tgt := 4) hx hb dX12_fitting_98 (by decide) ?_
            exact ih (i + 1) (by omega) (by omega) _ _ (kW.sub hw [0, 1, 2, 3, 4, 5] rfl rfl) _ (lv_sub hl [0, 1, 4] rfl)
          · refine lv_iconst (v := 1) hx hb dX12_fitting_86 (by decide) ?_
            refine lv_iload_n hx hb dX12_fitting_87 rfl (lv_at hl 2 rfl) ?_
            refine lv_ishl hx hb dX12_fitting_88 ?_
            refine lv_goto (tgt := 93) hx hb dX12_fitting_89 (by decide) ?_
            refine lv_ior hx hb dX12_fitting_93 ?_
            refine lv_topi (fun x_62 ex_62 => ?_)
            obtain rfl : x_62 = (miF bh go gm G (i + 1)) := ex_62.trans (miF_n c7)
            refine lv_istore_n (lv' := [(1, .int (miF bh go gm G (i + 1))), (4, .int (nI G)), (3, .int (mlF (bh i) go gm G)), (2, .int (nI i)), (0, .ref z)]) hx hb dX12_fitting_94 rfl hl (by decide) rfl (fun ls hl => ?_)
            refine lv_iinc (v := (nI (i + 1))) (lv' := [(2, .int (nI (i + 1))), (1, .int (miF bh go gm G (i + 1))), (4, .int (nI G)), (3, .int (mlF (bh i) go gm G)), (0, .ref z)]) hx hb dX12_fitting_95 hl (k := 3) rfl (nI_1 i) (by decide) rfl (fun ls hl => ?_)
            refine lv_goto (tgt := 4) hx hb dX12_fitting_98 (by decide) ?_
            exact ih (i + 1) (by omega) (by omega) _ _ (kW.sub hw [0, 1, 2, 3, 4, 5] rfl rfl) _ (lv_sub hl [0, 1, 4] rfl)
        | succ q ih2 =>
          intro j hj ls hl
          refine lv_iload hx hb dX12_fitting_19 (lv_at hl 0 rfl) ?_
          refine lv_aload_n hx hb dX12_fitting_21 rfl (lv_at hl 4 rfl) ?_
          refine fg_RX12_93 hC hw 0 rfl rfl dX12_fitting_22 ?_
          refine lv_iconst (v := 0) hx hb dX12_fitting_25 (by decide) ?_
          refine k_iald hC hw 3 rfl (k_in0 (by decide)) dX12_fitting_26 ?_
          refine lv_topi (fun x_63 ex_63 => ?_)
          obtain rfl : x_63 = (nI G) := (show x_63 = gs 0 from ex_63).trans hg0
          refine lv_icmp_ge (tgt := 81) hx hb dX12_fitting_27 (by decide) (fun h => absurd h (nI_ge (by omega) (by omega))) (fun _ => ?_)
          refine lv_iload_n hx hb dX12_fitting_30 rfl (lv_at hl 1 rfl) ?_
          refine lv_if_eq (tgt := 73) hx hb dX12_fitting_31 (by decide) (fun c4 => ?_) (fun c4 => ?_)
          · refine lv_iconst (v := 0) hx hb dX12_fitting_73 (by decide) ?_
            have hE1 : mlF (bh i) go gm (j + 1) = 0 := by rw [mlF_s, if_pos c4]
            refine W.eq (g2 := F0 m 74 ls [.int (mlF (bh i) go gm (j + 1))]) (by rw [hE1]) ?_
            refine lv_istore_n (lv' := [(3, .int (mlF (bh i) go gm (j + 1))), (4, .int (nI j)), (2, .int (nI i)), (1, .int (miF bh go gm G i)), (0, .ref z)]) hx hb dX12_fitting_74 rfl hl (by decide) rfl (fun ls hl => ?_)
            refine lv_iinc (v := (nI (j + 1))) (lv' := [(4, .int (nI (j + 1))), (3, .int (mlF (bh i) go gm (j + 1))), (2, .int (nI i)), (1, .int (miF bh go gm G i)), (0, .ref z)]) hx hb dX12_fitting_75 hl (k := 1) rfl (nI_1 j) (by decide) rfl (fun ls hl => ?_)
            refine lv_goto (tgt := 19) hx hb dX12_fitting_78 (by decide) ?_
            exact ih2 (j + 1) (by omega) _ (lv_sub hl [0, 1, 2, 3, 4] rfl)
          · refine lv_aload_n hx hb dX12_fitting_34 rfl (lv_at hl 4 rfl) ?_
            refine fg_RX12_29 hC hw 0 rfl rfl dX12_fitting_35 ?_
            refine lv_iload_n hx hb dX12_fitting_38 rfl (lv_at hl 2 rfl) ?_
            refine k_iald hC hw 2 rfl (vp_in_nI (by omega) (by decide)) dX12_fitting_39 ?_
            refine lv_topi (fun x_64 ex_64 => ?_)
            obtain rfl : x_64 = bh i := (show x_64 = bh (nI i : Int32).toNatClampNeg from ex_64).trans (by rw [nI_clamp (by omega)])
            refine lv_aload_n hx hb dX12_fitting_40 rfl (lv_at hl 4 rfl) ?_
            refine fg_RX12_96 hC hw 0 rfl rfl dX12_fitting_41 ?_
            refine lv_iload hx hb dX12_fitting_44 (lv_at hl 0 rfl) ?_
            refine k_iald hC hw 4 rfl (vp_in_nI (by omega) (by decide)) dX12_fitting_46 ?_
            refine lv_topi (fun x_65 ex_65 => ?_)
            obtain rfl : x_65 = go j := (show x_65 = go (nI j : Int32).toNatClampNeg from ex_65).trans (by rw [nI_clamp (by omega)])
            refine lv_ishr hx hb dX12_fitting_47 ?_
            refine lv_iconst (v := 1) hx hb dX12_fitting_48 (by decide) ?_
            refine lv_iand hx hb dX12_fitting_49 ?_
            refine lv_iconst (v := 1) hx hb dX12_fitting_50 (by decide) ?_
            refine lv_icmp_ne (tgt := 58) hx hb dX12_fitting_51 (by decide) (fun c5 => ?_) (fun c5 => ?_)
            · refine lv_iconst (v := 0) hx hb dX12_fitting_58 (by decide) ?_
              refine lv_aload_n hx hb dX12_fitting_59 rfl (lv_at hl 4 rfl) ?_
              refine fg_RX12_99 hC hw 0 rfl rfl dX12_fitting_60 ?_
              refine lv_iload hx hb dX12_fitting_63 (lv_at hl 0 rfl) ?_
              refine k_zald hC hw 5 rfl (vp_in_nI (by omega) (by decide)) dX12_fitting_65 ?_
              refine lv_topi (fun x_66 ex_66 => ?_)
              obtain rfl : x_66 = gm j := (show x_66 = gm (nI j : Int32).toNatClampNeg from ex_66).trans (by rw [nI_clamp (by omega)])
              refine lv_icmp_ne (tgt := 73) hx hb dX12_fitting_66 (by decide) (fun c6 => ?_) (fun c6 => ?_)
              · refine lv_iconst (v := 0) hx hb dX12_fitting_73 (by decide) ?_
                have hE1 : mlF (bh i) go gm (j + 1) = 0 := by rw [mlF_s, if_neg c4, if_neg c5, if_neg c6]
                refine W.eq (g2 := F0 m 74 ls [.int (mlF (bh i) go gm (j + 1))]) (by rw [hE1]) ?_
                refine lv_istore_n (lv' := [(3, .int (mlF (bh i) go gm (j + 1))), (4, .int (nI j)), (2, .int (nI i)), (1, .int (miF bh go gm G i)), (0, .ref z)]) hx hb dX12_fitting_74 rfl hl (by decide) rfl (fun ls hl => ?_)
                refine lv_iinc (v := (nI (j + 1))) (lv' := [(4, .int (nI (j + 1))), (3, .int (mlF (bh i) go gm (j + 1))), (2, .int (nI i)), (1, .int (miF bh go gm G i)), (0, .ref z)]) hx hb dX12_fitting_75 hl (k := 1) rfl (nI_1 j) (by decide) rfl (fun ls hl => ?_)
                refine lv_goto (tgt := 19) hx hb dX12_fitting_78 (by decide) ?_
                exact ih2 (j + 1) (by omega) _ (lv_sub hl [0, 1, 2, 3, 4] rfl)
              · refine lv_iconst (v := 1) hx hb dX12_fitting_69 (by decide) ?_
                refine lv_goto (tgt := 74) hx hb dX12_fitting_70 (by decide) ?_
                have hE1 : mlF (bh i) go gm (j + 1) = 1 := by rw [mlF_s, if_neg c4, if_neg c5, if_pos c6]
                refine W.eq (g2 := F0 m 74 ls [.int (mlF (bh i) go gm (j + 1))]) (by rw [hE1]) ?_
                refine lv_istore_n (lv' := [(3, .int (mlF (bh i) go gm (j + 1))), (4, .int (nI j)), (2, .int (nI i)), (1, .int (miF bh go gm G i)), (0, .ref z)]) hx hb dX12_fitting_74 rfl hl (by decide) rfl (fun ls hl => ?_)
                refine lv_iinc (v := (nI (j + 1))) (lv' := [(4, .int (nI (j + 1))), (3, .int (mlF (bh i) go gm (j + 1))), (2, .int (nI i)), (1, .int (miF bh go gm G i)), (0, .ref z)]) hx hb dX12_fitting_75 hl (k := 1) rfl (nI_1 j) (by decide) rfl (fun ls hl => ?_)
                refine lv_goto (tgt := 19) hx hb dX12_fitting_78 (by decide) ?_
                exact ih2 (j + 1) (by omega) _ (lv_sub hl [0, 1, 2, 3, 4] rfl)
            · refine lv_iconst (v := 1) hx hb dX12_fitting_54 (by decide) ?_
              refine lv_goto (tgt := 59) hx hb dX12_fitting_55 (by decide) ?_
              refine lv_aload_n hx hb dX12_fitting_59 rfl (lv_at hl 4 rfl) ?_
              refine fg_RX12_99 hC hw 0 rfl rfl dX12_fitting_60 ?_
              refine lv_iload hx hb dX12_fitting_63 (lv_at hl 0 rfl) ?_
              refine k_zald hC hw 5 rfl (vp_in_nI (by omega) (by decide)) dX12_fitting_65 ?_
              refine lv_topi (fun x_67 ex_67 => ?_)
              obtain rfl : x_67 = gm j := (show x_67 = gm (nI j : Int32).toNatClampNeg from ex_67).trans (by rw [nI_clamp (by omega)])
              refine lv_icmp_ne (tgt := 73) hx hb dX12_fitting_66 (by decide) (fun c6 => ?_) (fun c6 => ?_)
              · refine lv_iconst (v := 0) hx hb dX12_fitting_73 (by decide) ?_
                have hE1 : mlF (bh i) go gm (j + 1) = 0 := by rw [mlF_s, if_neg c4, if_pos c5, if_neg c6]
                refine W.eq (g2 := F0 m 74 ls [.int (mlF (bh i) go gm (j + 1))]) (by rw [hE1]) ?_
                refine lv_istore_n (lv' := [(3, .int (mlF (bh i) go gm (j + 1))), (4, .int (nI j)), (2, .int (nI i)), (1, .int (miF bh go gm G i)), (0, .ref z)]) hx hb dX12_fitting_74 rfl hl (by decide) rfl (fun ls hl => ?_)
                refine lv_iinc (v := (nI (j + 1))) (lv' := [(4, .int (nI (j + 1))), (3, .int (mlF (bh i) go gm (j + 1))), (2, .int (nI i)), (1, .int (miF bh go gm G i)), (0, .ref z)]) hx hb dX12_fitting_75 hl (k := 1) rfl (nI_1 j) (by decide) rfl (fun ls hl => ?_)
                refine lv_goto (tgt := 19) hx hb dX12_fitting_78 (by decide) ?_
                exact ih2 (j + 1) (by omega) _ (lv_sub hl [0, 1, 2, 3, 4] rfl)
              · refine lv_iconst (v := 1) hx hb dX12_fitting_69 (by decide) ?_
                refine lv_goto (tgt := 74) hx hb dX12_fitting_70 (by decide) ?_
                have hE1 : mlF (bh i) go gm (j + 1) = 1 := by rw [mlF_s, if_neg c4, if_pos c5, if_pos c6]
                refine W.eq (g2 := F0 m 74 ls [.int (mlF (bh i) go gm (j + 1))]) (by rw [hE1]) ?_
                refine lv_istore_n (lv' := [(3, .int (mlF (bh i) go gm (j + 1))), (4, .int (nI j)), (2, .int (nI i)), (1, .int (miF bh go gm G i)), (0, .ref z)]) hx hb dX12_fitting_74 rfl hl (by decide) rfl (fun ls hl => ?_)
                refine lv_iinc (v := (nI (j + 1))) (lv' := [(4, .int (nI (j + 1))), (3, .int (mlF (bh i) go gm (j + 1))), (2, .int (nI i)), (1, .int (miF bh go gm G i)), (0, .ref z)]) hx hb dX12_fitting_75 hl (k := 1) rfl (nI_1 j) (by decide) rfl (fun ls hl => ?_)
                refine lv_goto (tgt := 19) hx hb dX12_fitting_78 (by decide) ?_
                exact ih2 (j + 1) (by omega) _ (lv_sub hl [0, 1, 2, 3, 4] rfl)
      exact hin G 0 (by omega) _ (lv_sub hl [0, 1, 2, 3, 4] rfl)

set_option maxHeartbeats 4000000 in
set_option maxRecDepth 100000 in
theorem c_X12_fitting (γ : kΓ) (l : Launch) (z : Nat) (z2 : Nat) (z10 : Nat) (z11 : Nat) (z12 : Nat) (z13 : Nat) (z14 : Nat) (z15 : Nat) (z16 : Nat) (z17 : Nat) (z18 : Nat) (z19 : Nat) (z22 : Nat) (z23 : Nat) (z24 : Nat) (z25 : Nat) (z26 : Nat) (z27 : Nat) (z28 : Nat) (z29 : Nat) (z30 : Nat) (z31 : Nat) (z32 : Nat) (z33 : Nat) (z36 : Nat) (z37 : Nat) (z38 : Nat) (z39 : Nat) (z40 : Nat) (z41 : Nat) (z42 : Nat) (z43 : Nat) (z44 : Nat) (z45 : Nat) (z46 : Nat) (z47 : Nat) (z48 : Nat) (z55 : Nat) (z56 : Nat) (z59 : Nat) (z60 : Nat) (z61 : Nat) (n0 : Int32) (n1 : Int32) (n3 : Int32) (n4 : Int32) (n5 : Int32) (n6 : Int32) (n7 : Int64) (n8 : Int32) (n9 : Int32) (n20 : Int32) (n21 : Int32) (n34 : Int32) (n35 : Int64) (n49 : Int32) (n50 : Int32) (n51 : Int32) (n52 : Int32) (n53 : Int32) (n54 : Int32) (n57 : Int32) (n58 : Int32) (n62 : Int32) (n63 : Int64) (ab : Nat → Int32) (bh : Nat → Int32) (gs : Nat → Int32) (go : Nat → Int32) (gm : Nat → Int32) (T : Nat) (G : Nat) (h0 : ab 0 = nI T) (hg0 : gs 0 = nI G) (hT : T ≤ 8) (hG : G ≤ 8) : kM γ l yX12_fitting cX12_fitting 5 ((some .int)) ({ frames := 0, cells := 0, slots := 0, locals := 0 } : Room) [.ref z] [(z, .inr (11, [.int n0, .int n1, .ref z2, .int n3, .int n4, .int n5, .int n6, .long n7, .int n8, .int n9, .ref z10, .ref z11, .ref z12, .ref z13, .ref z14, .ref z15, .ref z16, .ref z17, .ref z18, .ref z19, .int n20, .int n21, .ref z22, .ref z23, .ref z24, .ref z25, .ref z26, .ref z27, .ref z28, .ref z29, .ref z30, .ref z31, .ref z32, .ref z33, .int n34, .long n35, .ref z36, .ref z37, .ref z38, .ref z39, .ref z40, .ref z41, .ref z42, .ref z43, .ref z44, .ref z45, .ref z46, .ref z47, .ref z48, .int n49, .int n50, .int n51, .int n52, .int n53, .int n54, .ref z55, .ref z56, .int n57, .int n58, .ref z59, .ref z60, .ref z61, .int n62, .long n63])), (z10, .inl (γ.2.1 0, 10, .inl ab)), (z15, .inl (γ.2.1 0, 16, .inl bh)), (z40, .inl (γ.2.1 0, 5, .inl gs)), (z41, .inl (γ.2.1 0, 40, .inl go)), (z42, .inl (γ.2.1 3, 40, .inl gm))] (fun r w1 => r = some (.int (miF bh go gm G T)) ∧ w1 = [(z, .inr (11, [.int n0, .int n1, .ref z2, .int n3, .int n4, .int n5, .int n6, .long n7, .int n8, .int n9, .ref z10, .ref z11, .ref z12, .ref z13, .ref z14, .ref z15, .ref z16, .ref z17, .ref z18, .ref z19, .int n20, .int n21, .ref z22, .ref z23, .ref z24, .ref z25, .ref z26, .ref z27, .ref z28, .ref z29, .ref z30, .ref z31, .ref z32, .ref z33, .int n34, .long n35, .ref z36, .ref z37, .ref z38, .ref z39, .ref z40, .ref z41, .ref z42, .ref z43, .ref z44, .ref z45, .ref z46, .ref z47, .ref z48, .int n49, .int n50, .int n51, .int n52, .int n53, .int n54, .ref z55, .ref z56, .int n57, .int n58, .ref z59, .ref z60, .ref z61, .int n62, .long n63])), (z10, .inl (γ.2.1 0, 10, .inl ab)), (z15, .inl (γ.2.1 0, 16, .inl bh)), (z40, .inl (γ.2.1 0, 5, .inl gs)), (z41, .inl (γ.2.1 0, 40, .inl go)), (z42, .inl (γ.2.1 3, 40, .inl gm))]) := by
  refine k_ofW (by decide) (Nat.le_of_ble_eq_true rfl) ?_
  intro p9 e s m below meth c A ls hC hr hlocks hname hw hl
  have hx := hC.1
  have hb := hC.2.1
  have hl : lv_has ls 5 [(0, .ref z)] := hl
  refine lv_iconst (v := 0) hx hb dX12_fitting_0 (by decide) ?_
  refine lv_istore_n (lv' := [(1, .int 0), (0, .ref z)]) hx hb dX12_fitting_1 rfl hl (by decide) rfl (fun ls hl => ?_)
  refine lv_iconst (v := 0) hx hb dX12_fitting_2 (by decide) ?_
  refine lv_istore_n (lv' := [(2, .int 0), (1, .int 0), (0, .ref z)]) hx hb dX12_fitting_3 rfl hl (by decide) rfl (fun ls hl => ?_)
  exact lp_fitting z z2 z10 z11 z12 z13 z14 z15 z16 z17 z18 z19 z22 z23 z24 z25 z26 z27 z28 z29 z30 z31 z32 z33 z36 z37 z38 z39 z40 z41 z42 z43 z44 z45 z46 z47 z48 z55 z56 z59 z60 z61 n0 n1 n3 n4 n5 n6 n7 n8 n9 n20 n21 n34 n35 n49 n50 n51 n52 n53 n54 n57 n58 n62 n63 ab bh gs go gm T G h0 hg0 hT hG hC hr hlocks (T + 1) 0 (by omega) (Nat.zero_le T) _ _ hw _ (lv_sub hl [0, 1, 2] rfl)

set_option maxHeartbeats 4000000 in
set_option maxRecDepth 100000 in
theorem c_X12_fits (γ : kΓ) (l : Launch) (z : Nat) (z2 : Nat) (z10 : Nat) (z11 : Nat) (z12 : Nat) (z13 : Nat) (z14 : Nat) (z15 : Nat) (z16 : Nat) (z17 : Nat) (z18 : Nat) (z19 : Nat) (z22 : Nat) (z23 : Nat) (z24 : Nat) (z25 : Nat) (z26 : Nat) (z27 : Nat) (z28 : Nat) (z29 : Nat) (z30 : Nat) (z31 : Nat) (z32 : Nat) (z33 : Nat) (z36 : Nat) (z37 : Nat) (z38 : Nat) (z39 : Nat) (z40 : Nat) (z41 : Nat) (z42 : Nat) (z43 : Nat) (z44 : Nat) (z45 : Nat) (z46 : Nat) (z47 : Nat) (z48 : Nat) (z55 : Nat) (z56 : Nat) (z59 : Nat) (z60 : Nat) (z61 : Nat) (n0 : Int32) (n1 : Int32) (n3 : Int32) (n4 : Int32) (n5 : Int32) (n6 : Int32) (n7 : Int64) (n8 : Int32) (n9 : Int32) (n20 : Int32) (n21 : Int32) (n34 : Int32) (n35 : Int64) (n49 : Int32) (n50 : Int32) (n51 : Int32) (n52 : Int32) (n53 : Int32) (n54 : Int32) (n57 : Int32) (n58 : Int32) (n62 : Int32) (n63 : Int64) (ab : Nat → Int32) (bh : Nat → Int32) (gs : Nat → Int32) (go : Nat → Int32) (gm : Nat → Int32) (T : Nat) (G : Nat) (h0 : ab 0 = nI T) (hg0 : gs 0 = nI G) (hT : T ≤ 8) (hG : G ≤ 8) : kM γ l yX12_fits cX12_fits 1 ((some .int)) ({ frames := 1, cells := 0, slots := 0, locals := 24 } : Room) [.ref z] [(z, .inr (11, [.int n0, .int n1, .ref z2, .int n3, .int n4, .int n5, .int n6, .long n7, .int n8, .int n9, .ref z10, .ref z11, .ref z12, .ref z13, .ref z14, .ref z15, .ref z16, .ref z17, .ref z18, .ref z19, .int n20, .int n21, .ref z22, .ref z23, .ref z24, .ref z25, .ref z26, .ref z27, .ref z28, .ref z29, .ref z30, .ref z31, .ref z32, .ref z33, .int n34, .long n35, .ref z36, .ref z37, .ref z38, .ref z39, .ref z40, .ref z41, .ref z42, .ref z43, .ref z44, .ref z45, .ref z46, .ref z47, .ref z48, .int n49, .int n50, .int n51, .int n52, .int n53, .int n54, .ref z55, .ref z56, .int n57, .int n58, .ref z59, .ref z60, .ref z61, .int n62, .long n63])), (z10, .inl (γ.2.1 0, 10, .inl ab)), (z15, .inl (γ.2.1 0, 16, .inl bh)), (z40, .inl (γ.2.1 0, 5, .inl gs)), (z41, .inl (γ.2.1 0, 40, .inl go)), (z42, .inl (γ.2.1 3, 40, .inl gm))] (fun r w1 => r = some (.int (miF bh go gm G T)) ∧ w1 = [(z, .inr (11, [.int 0, .int n1, .ref z2, .int n3, .int n4, .int n5, .int n6, .long n7, .int n8, .int n9, .ref z10, .ref z11, .ref z12, .ref z13, .ref z14, .ref z15, .ref z16, .ref z17, .ref z18, .ref z19, .int n20, .int n21, .ref z22, .ref z23, .ref z24, .ref z25, .ref z26, .ref z27, .ref z28, .ref z29, .ref z30, .ref z31, .ref z32, .ref z33, .int n34, .long n35, .ref z36, .ref z37, .ref z38, .ref z39, .ref z40, .ref z41, .ref z42, .ref z43, .ref z44, .ref z45, .ref z46, .ref z47, .ref z48, .int n49, .int n50, .int n51, .int n52, .int n53, .int n54, .ref z55, .ref z56, .int n57, .int n58, .ref z59, .ref z60, .ref z61, .int n62, .long n63])), (z10, .inl (γ.2.1 0, 10, .inl ab)), (z15, .inl (γ.2.1 0, 16, .inl bh)), (z40, .inl (γ.2.1 0, 5, .inl gs)), (z41, .inl (γ.2.1 0, 40, .inl go)), (z42, .inl (γ.2.1 3, 40, .inl gm))]) := by
  refine k_ofW (by decide) (Nat.le_of_ble_eq_true rfl) ?_
  intro p9 e s m below meth c A ls hC hr hlocks hname hw hl
  have hx := hC.1
  have hb := hC.2.1
  have hl : lv_has ls 1 [(0, .ref z)] := hl
  refine lv_aload_n hx hb dX12_fits_0 rfl (lv_at hl 0 rfl) ?_
  refine lv_iconst (v := 0) hx hb dX12_fits_1 (by decide) ?_
  refine fs_RX12_143 hC hw 0 rfl rfl rfl (Nat.le_of_ble_eq_true rfl) dX12_fits_2 (fun H locs hw => ?_)
  have hw : kW γ A [(z, .inr (11, [.int 0, .int n1, .ref z2, .int n3, .int n4, .int n5, .int n6, .long n7, .int n8, .int n9, .ref z10, .ref z11, .ref z12, .ref z13, .ref z14, .ref z15, .ref z16, .ref z17, .ref z18, .ref z19, .int n20, .int n21, .ref z22, .ref z23, .ref z24, .ref z25, .ref z26, .ref z27, .ref z28, .ref z29, .ref z30, .ref z31, .ref z32, .ref z33, .int n34, .long n35, .ref z36, .ref z37, .ref z38, .ref z39, .ref z40, .ref z41, .ref z42, .ref z43, .ref z44, .ref z45, .ref z46, .ref z47, .ref z48, .int n49, .int n50, .int n51, .int n52, .int n53, .int n54, .ref z55, .ref z56, .int n57, .int n58, .ref z59, .ref z60, .ref z61, .int n62, .long n63])), (z10, .inl (γ.2.1 0, 10, .inl ab)), (z15, .inl (γ.2.1 0, 16, .inl bh)), (z40, .inl (γ.2.1 0, 5, .inl gs)), (z41, .inl (γ.2.1 0, 40, .inl go)), (z42, .inl (γ.2.1 3, 40, .inl gm))] s H locs := hw
  refine lv_aload_n hx hb dX12_fits_5 rfl (lv_at hl 0 rfl) ?_
  refine k_V (wr := []) 0 gw_1760 gw_1762 gp_109 gw_15 gw_1763 hd_X12_fitting hC hw (c_X12_fitting γ l z z2 z10 z11 z12 z13 z14 z15 z16 z17 z18 z19 z22 z23 z24 z25 z26 z27 z28 z29 z30 z31 z32 z33 z36 z37 z38 z39 z40 z41 z42 z43 z44 z45 z46 z47 z48 z55 z56 z59 z60 z61 0 n1 n3 n4 n5 n6 n7 n8 n9 n20 n21 n34 n35 n49 n50 n51 n52 n53 n54 n57 n58 n62 n63 ab bh gs go gm T G h0 hg0 hT hG) ⟨by decide, by decide⟩ ⟨by decide, by decide⟩ hl.1 rfl 0 rfl rfl rfl (Nat.le_of_ble_eq_true rfl) [0, 1, 2, 3, 4, 5] [] rfl rfl rfl rfl (by decide) dX12_fits_6 (fun r w1 H locs hq hw => ?_)
  obtain ⟨rfl, rfl⟩ := hq
  have hw : kW γ A [(z, .inr (11, [.int 0, .int n1, .ref z2, .int n3, .int n4, .int n5, .int n6, .long n7, .int n8, .int n9, .ref z10, .ref z11, .ref z12, .ref z13, .ref z14, .ref z15, .ref z16, .ref z17, .ref z18, .ref z19, .int n20, .int n21, .ref z22, .ref z23, .ref z24, .ref z25, .ref z26, .ref z27, .ref z28, .ref z29, .ref z30, .ref z31, .ref z32, .ref z33, .int n34, .long n35, .ref z36, .ref z37, .ref z38, .ref z39, .ref z40, .ref z41, .ref z42, .ref z43, .ref z44, .ref z45, .ref z46, .ref z47, .ref z48, .int n49, .int n50, .int n51, .int n52, .int n53, .int n54, .ref z55, .ref z56, .int n57, .int n58, .ref z59, .ref z60, .ref z61, .int n62, .long n63])), (z10, .inl (γ.2.1 0, 10, .inl ab)), (z15, .inl (γ.2.1 0, 16, .inl bh)), (z40, .inl (γ.2.1 0, 5, .inl gs)), (z41, .inl (γ.2.1 0, 40, .inl go)), (z42, .inl (γ.2.1 3, 40, .inl gm))] s H locs := hw
  refine W.eq (g2 := F0 m 9 ls [.int (miF bh go gm G T)]) rfl ?_
  exact k_iret hC hr hlocks hw [0, 1, 2, 3, 4, 5] rfl rfl ⟨rfl, rfl⟩ (by decide) (by decide) dX12_fits_9


theorem dX12_begins_0 : decode cX12_begins 0 = .ok (.aload_n 0, 1) := by decide +kernel
theorem dX12_begins_1 : decode cX12_begins 1 = .ok (.aload_n 0, 1) := by decide +kernel
theorem dX12_begins_2 : decode cX12_begins 2 = .ok (.getfield 148, 3) := by decide +kernel
theorem dX12_begins_5 : decode cX12_begins 5 = .ok (.putfield 151, 3) := by decide +kernel
theorem dX12_begins_8 : decode cX12_begins 8 = .ok (.aload_n 0, 1) := by decide +kernel
theorem dX12_begins_9 : decode cX12_begins 9 = .ok (.iconst 0, 1) := by decide +kernel
theorem dX12_begins_10 : decode cX12_begins 10 = .ok (.putfield 148, 3) := by decide +kernel
theorem dX12_begins_13 : decode cX12_begins 13 = .ok (.aload_n 0, 1) := by decide +kernel
theorem dX12_begins_14 : decode cX12_begins 14 = .ok (.iconst 0, 1) := by decide +kernel
theorem dX12_begins_15 : decode cX12_begins 15 = .ok (.putfield 154, 3) := by decide +kernel
theorem dX12_begins_18 : decode cX12_begins 18 = .ok (.aload_n 0, 1) := by decide +kernel
theorem dX12_begins_19 : decode cX12_begins 19 = .ok (.invokevirtual 212, 3) := by decide +kernel
theorem dX12_begins_22 : decode cX12_begins 22 = .ok (.return_, 1) := by decide +kernel
theorem up5 {f : Nat → Int32} {x : Int32} (h0 : 0 ≤ (f 5).toInt) (h8 : (f 5).toInt ≤ 8) (hne : ¬ 8 + f 5 = 16) : 0 ≤ (f 5 + 1).toInt ∧ (f 5 + 1).toInt ≤ 8 := by
  have e : (f 5 + 1).toInt = (f 5).toInt + 1 := by
    rw [q_addT, show (1 : Int32).toInt = 1 from by decide, q_bmod (by unfold i32lo; omega) (by unfold i32hi; omega)]
  have e8 : (8 + f 5).toInt = 8 + (f 5).toInt := by
    rw [q_addT, show (8 : Int32).toInt = 8 from by decide, q_bmod (by unfold i32lo; omega) (by unfold i32hi; omega)]
  have h9 : ¬ (8 + f 5).toInt = 16 := fun h => hne (Int32.toInt_inj.mp (h.trans (by decide)))
  omega
theorem up6 {f : Nat → Int32} (h0 : 0 ≤ (f 6).toInt) (h5 : (f 6).toInt ≤ 5) (hne : ¬ 5 + f 6 = 10) : 0 ≤ (f 6 + 1).toInt ∧ (f 6 + 1).toInt ≤ 5 := by
  have e : (f 6 + 1).toInt = (f 6).toInt + 1 := by
    rw [q_addT, show (1 : Int32).toInt = 1 from by decide, q_bmod (by unfold i32lo; omega) (by unfold i32hi; omega)]
  have e8 : (5 + f 6).toInt = 5 + (f 6).toInt := by
    rw [q_addT, show (5 : Int32).toInt = 5 from by decide, q_bmod (by unfold i32lo; omega) (by unfold i32hi; omega)]
  have h9 : ¬ (5 + f 6).toInt = 10 := fun h => hne (Int32.toInt_inj.mp (h.trans (by decide)))
  omega
section OKMS
variable {g : Nat → Int32} {n : Nat} {rs : mRS} {a : mAS}
theorem ok_m_readsThought (hM : mOK a) : mOK (F_m_readsThought g n rs a).2.2 := by
  unfold F_m_readsThought
  split
  · exact hM
  · rename_i hne
    repeat' split
    all_goals first | exact hM | exact ⟨up5 (x := 0) hM.1.1 hM.1.2 hne, hM.2⟩
theorem ok_m_readsFollows (hM : mOK a) : mOK (F_m_readsFollows g n rs a).2.2 := by
  unfold F_m_readsFollows
  repeat' split
  all_goals exact hM
theorem ok_m_readsTenant (hM : mOK a) : mOK (F_m_readsTenant g n rs a).2.2 := by
  unfold F_m_readsTenant
  split
  · exact hM
  · rename_i hne
    repeat' split
    all_goals first | exact hM | exact ⟨hM.1, up6 hM.2.1 hM.2.2 hne⟩
theorem ab_rdl : ∀ (k d : Nat) (wv : Int32) (rs : mRS) (a : mAS), (F_m_rdl g n k d wv rs a).2.2.1 = a.1
  | 0, d, wv, rs, a => rfl
  | k + 1, d, wv, rs, a => by
    by_cases k0 : wv = 0
    · by_cases k1 : (F_m_isSign g n rs 43) = 0
      · by_cases k2 : (F_m_isSign g n rs 45) = 0
        · by_cases k3 : (F_m_isSign g n rs 42) = 0
          · by_cases k4 : (F_m_isSign g n rs 60) = 0
            · by_cases k5 : (F_m_isSign g n rs 61) = 0
              · by_cases k6 : (F_m_isWord g n rs 1111) = 0
                · by_cases k7 : (F_m_isWord g n rs 423) = 0
                  · by_cases k8 : (F_m_isSign g n rs 41) = 0
                    · by_cases k9 : (nI d) = 0
                      · by_cases k10 : (F_m_isSign g n rs 59) = 0
                        · have e9 : F_m_rdl g n (k + 1) d wv rs a = (0, (F_m_fails g n rs 1), a) := by rw [F_m_rdl_s, if_pos k0, if_pos k1, if_pos k2, if_pos k3, if_pos k4, if_pos k5, if_pos k6, if_pos k7, if_pos k8, if_pos k9, if_pos k10]
                          exact congrArg (fun x => x.2.2.1) e9
                        · have e9 : F_m_rdl g n (k + 1) d wv rs a = (1, (mv g n rs), a) := by rw [F_m_rdl_s, if_pos k0, if_pos k1, if_pos k2, if_pos k3, if_pos k4, if_pos k5, if_pos k6, if_pos k7, if_pos k8, if_pos k9, if_neg k10]
                          exact congrArg (fun x => x.2.2.1) e9
                      · have e9 : F_m_rdl g n (k + 1) d wv rs a = (0, (F_m_fails g n rs 1), a) := by rw [F_m_rdl_s, if_pos k0, if_pos k1, if_pos k2, if_pos k3, if_pos k4, if_pos k5, if_pos k6, if_pos k7, if_pos k8, if_neg k9]
                        exact congrArg (fun x => x.2.2.1) e9
                    · by_cases k9 : (nI d) ≤ 0
                      · by_cases k10 : (nI d) = 0
                        · by_cases k11 : (F_m_isSign g n rs 59) = 0
                          · have e9 : F_m_rdl g n (k + 1) d wv rs a = (0, (F_m_fails g n rs 1), a) := by rw [F_m_rdl_s, if_pos k0, if_pos k1, if_pos k2, if_pos k3, if_pos k4, if_pos k5, if_pos k6, if_pos k7, if_neg k8, if_pos k9, if_pos k10, if_pos k11]
                            exact congrArg (fun x => x.2.2.1) e9
                          · have e9 : F_m_rdl g n (k + 1) d wv rs a = (1, (mv g n rs), a) := by rw [F_m_rdl_s, if_pos k0, if_pos k1, if_pos k2, if_pos k3, if_pos k4, if_pos k5, if_pos k6, if_pos k7, if_neg k8, if_pos k9, if_pos k10, if_neg k11]
                            exact congrArg (fun x => x.2.2.1) e9
                        · have e9 : F_m_rdl g n (k + 1) d wv rs a = (0, (F_m_fails g n rs 1), a) := by rw [F_m_rdl_s, if_pos k0, if_pos k1, if_pos k2, if_pos k3, if_pos k4, if_pos k5, if_pos k6, if_pos k7, if_neg k8, if_pos k9, if_neg k10]
                          exact congrArg (fun x => x.2.2.1) e9
                      · have e9 : F_m_rdl g n (k + 1) d wv rs a = (F_m_rdl g n k (popn (((F_m_puts g n rs a 29).2).2.2.2.2.2.2.2.2.2.2.1) (d - 1)) wv (mv g n ((F_m_puts g n rs a 29).1)) ((F_m_puts g n rs a 29).2)) := by rw [F_m_rdl_s, if_pos k0, if_pos k1, if_pos k2, if_pos k3, if_pos k4, if_pos k5, if_pos k6, if_pos k7, if_neg k8, if_neg k9]
                        rw [e9]; exact ab_rdl k _ _ _ _
                  · have e9 : F_m_rdl g n (k + 1) d wv rs a = (F_m_rdl g n k d 1 (mv g n ((F_m_puts g n rs a 27).1)) ((((F_m_puts g n rs a 27).2).1), (((F_m_puts g n rs a 27).2).2.1), (((F_m_puts g n rs a 27).2).2.2.1), (((F_m_puts g n rs a 27).2).2.2.2.1), (((F_m_puts g n rs a 27).2).2.2.2.2.1), (((F_m_puts g n rs a 27).2).2.2.2.2.2.1), (((F_m_puts g n rs a 27).2).2.2.2.2.2.2.1), (((F_m_puts g n rs a 27).2).2.2.2.2.2.2.2.1), (((F_m_puts g n rs a 27).2).2.2.2.2.2.2.2.2.1), (((F_m_puts g n rs a 27).2).2.2.2.2.2.2.2.2.2.1), (((F_m_puts g n rs a 27).2).2.2.2.2.2.2.2.2.2.2.1), (upd (((F_m_puts g n rs a 27).2).2.2.2.2.2.2.2.2.2.2.2) ((nI d) : Int32).toNatClampNeg 0))) := by rw [F_m_rdl_s, if_pos k0, if_pos k1, if_pos k2, if_pos k3, if_pos k4, if_pos k5, if_pos k6, if_neg k7]
                    rw [e9]; exact ab_rdl k _ _ _ _
                · have e9 : F_m_rdl g n (k + 1) d wv rs a = (F_m_rdl g n k d 1 (mv g n ((F_m_puts g n rs a 26).1)) ((((F_m_puts g n rs a 26).2).1), (((F_m_puts g n rs a 26).2).2.1), (((F_m_puts g n rs a 26).2).2.2.1), (((F_m_puts g n rs a 26).2).2.2.2.1), (((F_m_puts g n rs a 26).2).2.2.2.2.1), (((F_m_puts g n rs a 26).2).2.2.2.2.2.1), (((F_m_puts g n rs a 26).2).2.2.2.2.2.2.1), (((F_m_puts g n rs a 26).2).2.2.2.2.2.2.2.1), (((F_m_puts g n rs a 26).2).2.2.2.2.2.2.2.2.1), (((F_m_puts g n rs a 26).2).2.2.2.2.2.2.2.2.2.1), (((F_m_puts g n rs a 26).2).2.2.2.2.2.2.2.2.2.2.1), (upd (((F_m_puts g n rs a 26).2).2.2.2.2.2.2.2.2.2.2.2) ((nI d) : Int32).toNatClampNeg 0))) := by rw [F_m_rdl_s, if_pos k0, if_pos k1, if_pos k2, if_pos k3, if_pos k4, if_pos k5, if_neg k6]
                  rw [e9]; exact ab_rdl k _ _ _ _
              · by_cases k6 : ((a.2.2.2.2.2.2.2.2.2.2.2) ((nI d) : Int32).toNatClampNeg) = 0
                · have e9 : F_m_rdl g n (k + 1) d wv rs a = (F_m_rdl g n k d 1 (mv g n ((F_m_puts g n rs a 25).1)) ((((F_m_puts g n rs a 25).2).1), (((F_m_puts g n rs a 25).2).2.1), (((F_m_puts g n rs a 25).2).2.2.1), (((F_m_puts g n rs a 25).2).2.2.2.1), (((F_m_puts g n rs a 25).2).2.2.2.2.1), (((F_m_puts g n rs a 25).2).2.2.2.2.2.1), (((F_m_puts g n rs a 25).2).2.2.2.2.2.2.1), (((F_m_puts g n rs a 25).2).2.2.2.2.2.2.2.1), (((F_m_puts g n rs a 25).2).2.2.2.2.2.2.2.2.1), (((F_m_puts g n rs a 25).2).2.2.2.2.2.2.2.2.2.1), (((F_m_puts g n rs a 25).2).2.2.2.2.2.2.2.2.2.2.1), (upd (((F_m_puts g n rs a 25).2).2.2.2.2.2.2.2.2.2.2.2) ((nI d) : Int32).toNatClampNeg 1))) := by rw [F_m_rdl_s, if_pos k0, if_pos k1, if_pos k2, if_pos k3, if_pos k4, if_neg k5, if_pos k6]
                  rw [e9]; exact ab_rdl k _ _ _ _
                · by_cases k7 : (F_m_isWord g n rs 1111) = 0
                  · by_cases k8 : (F_m_isWord g n rs 423) = 0
                    · by_cases k9 : (F_m_isSign g n rs 41) = 0
                      · by_cases k10 : (nI d) = 0
                        · by_cases k11 : (F_m_isSign g n rs 59) = 0
                          · have e9 : F_m_rdl g n (k + 1) d wv rs a = (0, (F_m_fails g n rs 1), a) := by rw [F_m_rdl_s, if_pos k0, if_pos k1, if_pos k2, if_pos k3, if_pos k4, if_neg k5, if_neg k6, if_pos k7, if_pos k8, if_pos k9, if_pos k10, if_pos k11]
                            exact congrArg (fun x => x.2.2.1) e9
                          · have e9 : F_m_rdl g n (k + 1) d wv rs a = (1, (mv g n rs), a) := by rw [F_m_rdl_s, if_pos k0, if_pos k1, if_pos k2, if_pos k3, if_pos k4, if_neg k5, if_neg k6, if_pos k7, if_pos k8, if_pos k9, if_pos k10, if_neg k11]
                            exact congrArg (fun x => x.2.2.1) e9
                        · have e9 : F_m_rdl g n (k + 1) d wv rs a = (0, (F_m_fails g n rs 1), a) := by rw [F_m_rdl_s, if_pos k0, if_pos k1, if_pos k2, if_pos k3, if_pos k4, if_neg k5, if_neg k6, if_pos k7, if_pos k8, if_pos k9, if_neg k10]
                          exact congrArg (fun x => x.2.2.1) e9
                      · by_cases k10 : (nI d) ≤ 0
                        · by_cases k11 : (nI d) = 0
                          · by_cases k12 : (F_m_isSign g n rs 59) = 0
                            · have e9 : F_m_rdl g n (k + 1) d wv rs a = (0, (F_m_fails g n rs 1), a) := by rw [F_m_rdl_s, if_pos k0, if_pos k1, if_pos k2, if_pos k3, if_pos k4, if_neg k5, if_neg k6, if_pos k7, if_pos k8, if_neg k9, if_pos k10, if_pos k11, if_pos k12]
                              exact congrArg (fun x => x.2.2.1) e9
                            · have e9 : F_m_rdl g n (k + 1) d wv rs a = (1, (mv g n rs), a) := by rw [F_m_rdl_s, if_pos k0, if_pos k1, if_pos k2, if_pos k3, if_pos k4, if_neg k5, if_neg k6, if_pos k7, if_pos k8, if_neg k9, if_pos k10, if_pos k11, if_neg k12]
                              exact congrArg (fun x => x.2.2.1) e9
                          · have e9 : F_m_rdl g n (k + 1) d wv rs a = (0, (F_m_fails g n rs 1), a) := by rw [F_m_rdl_s, if_pos k0, if_pos k1, if_pos k2, if_pos k3, if_pos k4, if_neg k5, if_neg k6, if_pos k7, if_pos k8, if_neg k9, if_pos k10, if_neg k11]
                            exact congrArg (fun x => x.2.2.1) e9
                        · have e9 : F_m_rdl g n (k + 1) d wv rs a = (F_m_rdl g n k (popn (((F_m_puts g n rs a 29).2).2.2.2.2.2.2.2.2.2.2.1) (d - 1)) wv (mv g n ((F_m_puts g n rs a 29).1)) ((F_m_puts g n rs a 29).2)) := by rw [F_m_rdl_s, if_pos k0, if_pos k1, if_pos k2, if_pos k3, if_pos k4, if_neg k5, if_neg k6, if_pos k7, if_pos k8, if_neg k9, if_neg k10]
                          rw [e9]; exact ab_rdl k _ _ _ _
                    · have e9 : F_m_rdl g n (k + 1) d wv rs a = (F_m_rdl g n k d 1 (mv g n ((F_m_puts g n rs a 27).1)) ((((F_m_puts g n rs a 27).2).1), (((F_m_puts g n rs a 27).2).2.1), (((F_m_puts g n rs a 27).2).2.2.1), (((F_m_puts g n rs a 27).2).2.2.2.1), (((F_m_puts g n rs a 27).2).2.2.2.2.1), (((F_m_puts g n rs a 27).2).2.2.2.2.2.1), (((F_m_puts g n rs a 27).2).2.2.2.2.2.2.1), (((F_m_puts g n rs a 27).2).2.2.2.2.2.2.2.1), (((F_m_puts g n rs a 27).2).2.2.2.2.2.2.2.2.1), (((F_m_puts g n rs a 27).2).2.2.2.2.2.2.2.2.2.1), (((F_m_puts g n rs a 27).2).2.2.2.2.2.2.2.2.2.2.1), (upd (((F_m_puts g n rs a 27).2).2.2.2.2.2.2.2.2.2.2.2) ((nI d) : Int32).toNatClampNeg 0))) := by rw [F_m_rdl_s, if_pos k0, if_pos k1, if_pos k2, if_pos k3, if_pos k4, if_neg k5, if_neg k6, if_pos k7, if_neg k8]
                      rw [e9]; exact ab_rdl k _ _ _ _
                  · have e9 : F_m_rdl g n (k + 1) d wv rs a = (F_m_rdl g n k d 1 (mv g n ((F_m_puts g n rs a 26).1)) ((((F_m_puts g n rs a 26).2).1), (((F_m_puts g n rs a 26).2).2.1), (((F_m_puts g n rs a 26).2).2.2.1), (((F_m_puts g n rs a 26).2).2.2.2.1), (((F_m_puts g n rs a 26).2).2.2.2.2.1), (((F_m_puts g n rs a 26).2).2.2.2.2.2.1), (((F_m_puts g n rs a 26).2).2.2.2.2.2.2.1), (((F_m_puts g n rs a 26).2).2.2.2.2.2.2.2.1), (((F_m_puts g n rs a 26).2).2.2.2.2.2.2.2.2.1), (((F_m_puts g n rs a 26).2).2.2.2.2.2.2.2.2.2.1), (((F_m_puts g n rs a 26).2).2.2.2.2.2.2.2.2.2.2.1), (upd (((F_m_puts g n rs a 26).2).2.2.2.2.2.2.2.2.2.2.2) ((nI d) : Int32).toNatClampNeg 0))) := by rw [F_m_rdl_s, if_pos k0, if_pos k1, if_pos k2, if_pos k3, if_pos k4, if_neg k5, if_neg k6, if_neg k7]
                    rw [e9]; exact ab_rdl k _ _ _ _
            · by_cases k5 : ((a.2.2.2.2.2.2.2.2.2.2.2) ((nI d) : Int32).toNatClampNeg) = 0
              · have e9 : F_m_rdl g n (k + 1) d wv rs a = (F_m_rdl g n k d 1 (mv g n ((F_m_puts g n rs a 24).1)) ((((F_m_puts g n rs a 24).2).1), (((F_m_puts g n rs a 24).2).2.1), (((F_m_puts g n rs a 24).2).2.2.1), (((F_m_puts g n rs a 24).2).2.2.2.1), (((F_m_puts g n rs a 24).2).2.2.2.2.1), (((F_m_puts g n rs a 24).2).2.2.2.2.2.1), (((F_m_puts g n rs a 24).2).2.2.2.2.2.2.1), (((F_m_puts g n rs a 24).2).2.2.2.2.2.2.2.1), (((F_m_puts g n rs a 24).2).2.2.2.2.2.2.2.2.1), (((F_m_puts g n rs a 24).2).2.2.2.2.2.2.2.2.2.1), (((F_m_puts g n rs a 24).2).2.2.2.2.2.2.2.2.2.2.1), (upd (((F_m_puts g n rs a 24).2).2.2.2.2.2.2.2.2.2.2.2) ((nI d) : Int32).toNatClampNeg 1))) := by rw [F_m_rdl_s, if_pos k0, if_pos k1, if_pos k2, if_pos k3, if_neg k4, if_pos k5]
                rw [e9]; exact ab_rdl k _ _ _ _
              · by_cases k6 : (F_m_isWord g n rs 1111) = 0
                · by_cases k7 : (F_m_isWord g n rs 423) = 0
                  · by_cases k8 : (F_m_isSign g n rs 41) = 0
                    · by_cases k9 : (nI d) = 0
                      · by_cases k10 : (F_m_isSign g n rs 59) = 0
                        · have e9 : F_m_rdl g n (k + 1) d wv rs a = (0, (F_m_fails g n rs 1), a) := by rw [F_m_rdl_s, if_pos k0, if_pos k1, if_pos k2, if_pos k3, if_neg k4, if_neg k5, if_pos k6, if_pos k7, if_pos k8, if_pos k9, if_pos k10]
                          exact congrArg (fun x => x.2.2.1) e9
                        · have e9 : F_m_rdl g n (k + 1) d wv rs a = (1, (mv g n rs), a) := by rw [F_m_rdl_s, if_pos k0, if_pos k1, if_pos k2, if_pos k3, if_neg k4, if_neg k5, if_pos k6, if_pos k7, if_pos k8, if_pos k9, if_neg k10]
                          exact congrArg (fun x => x.2.2.1) e9
                      · have e9 : F_m_rdl g n (k + 1) d wv rs a = (0, (F_m_fails g n rs 1), a) := by rw [F_m_rdl_s, if_pos k0, if_pos k1, if_pos k2, if_pos k3, if_neg k4, if_neg k5, if_pos k6, if_pos k7, if_pos k8, if_neg k9]
                        exact congrArg (fun x => x.2.2.1) e9
                    · by_cases k9 : (nI d) ≤ 0
                      · by_cases k10 : (nI d) = 0
                        · by_cases k11 : (F_m_isSign g n rs 59) = 0
                          · have e9 : F_m_rdl g n (k + 1) d wv rs a = (0, (F_m_fails g n rs 1), a) := by rw [F_m_rdl_s, if_pos k0, if_pos k1, if_pos k2, if_pos k3, if_neg k4, if_neg k5, if_pos k6, if_pos k7, if_neg k8, if_pos k9, if_pos k10, if_pos k11]
                            exact congrArg (fun x => x.2.2.1) e9
                          · have e9 : F_m_rdl g n (k + 1) d wv rs a = (1, (mv g n rs), a) := by rw [F_m_rdl_s, if_pos k0, if_pos k1, if_pos k2, if_pos k3, if_neg k4, if_neg k5, if_pos k6, if_pos k7, if_neg k8, if_pos k9, if_pos k10, if_neg k11]
                            exact congrArg (fun x => x.2.2.1) e9
                        · have e9 : F_m_rdl g n (k + 1) d wv rs a = (0, (F_m_fails g n rs 1), a) := by rw [F_m_rdl_s, if_pos k0, if_pos k1, if_pos k2, if_pos k3, if_neg k4, if_neg k5, if_pos k6, if_pos k7, if_neg k8, if_pos k9, if_neg k10]
                          exact congrArg (fun x => x.2.2.1) e9
                      · have e9 : F_m_rdl g n (k + 1) d wv rs a = (F_m_rdl g n k (popn (((F_m_puts g n rs a 29).2).2.2.2.2.2.2.2.2.2.2.1) (d - 1)) wv (mv g n ((F_m_puts g n rs a 29).1)) ((F_m_puts g n rs a 29).2)) := by rw [F_m_rdl_s, if_pos k0, if_pos k1, if_pos k2, if_pos k3, if_neg k4, if_neg k5, if_pos k6, if_pos k7, if_neg k8, if_neg k9]
                        rw [e9]; exact ab_rdl k _ _ _ _
                  · have e9 : F_m_rdl g n (k + 1) d wv rs a = (F_m_rdl g n k d 1 (mv g n ((F_m_puts g n rs a 27).1)) ((((F_m_puts g n rs a 27).2).1), (((F_m_puts g n rs a 27).2).2.1), (((F_m_puts g n rs a 27).2).2.2.1), (((F_m_puts g n rs a 27).2).2.2.2.1), (((F_m_puts g n rs a 27).2).2.2.2.2.1), (((F_m_puts g n rs a 27).2).2.2.2.2.2.1), (((F_m_puts g n rs a 27).2).2.2.2.2.2.2.1), (((F_m_puts g n rs a 27).2).2.2.2.2.2.2.2.1), (((F_m_puts g n rs a 27).2).2.2.2.2.2.2.2.2.1), (((F_m_puts g n rs a 27).2).2.2.2.2.2.2.2.2.2.1), (((F_m_puts g n rs a 27).2).2.2.2.2.2.2.2.2.2.2.1), (upd (((F_m_puts g n rs a 27).2).2.2.2.2.2.2.2.2.2.2.2) ((nI d) : Int32).toNatClampNeg 0))) := by rw [F_m_rdl_s, if_pos k0, if_pos k1, if_pos k2, if_pos k3, if_neg k4, if_neg k5, if_pos k6, if_neg k7]
                    rw [e9]; exact ab_rdl k _ _ _ _
                · have e9 : F_m_rdl g n (k + 1) d wv rs a = (F_m_rdl g n k d 1 (mv g n ((F_m_puts g n rs a 26).1)) ((((F_m_puts g n rs a 26).2).1), (((F_m_puts g n rs a 26).2).2.1), (((F_m_puts g n rs a 26).2).2.2.1), (((F_m_puts g n rs a 26).2).2.2.2.1), (((F_m_puts g n rs a 26).2).2.2.2.2.1), (((F_m_puts g n rs a 26).2).2.2.2.2.2.1), (((F_m_puts g n rs a 26).2).2.2.2.2.2.2.1), (((F_m_puts g n rs a 26).2).2.2.2.2.2.2.2.1), (((F_m_puts g n rs a 26).2).2.2.2.2.2.2.2.2.1), (((F_m_puts g n rs a 26).2).2.2.2.2.2.2.2.2.2.1), (((F_m_puts g n rs a 26).2).2.2.2.2.2.2.2.2.2.2.1), (upd (((F_m_puts g n rs a 26).2).2.2.2.2.2.2.2.2.2.2.2) ((nI d) : Int32).toNatClampNeg 0))) := by rw [F_m_rdl_s, if_pos k0, if_pos k1, if_pos k2, if_pos k3, if_neg k4, if_neg k5, if_neg k6]
                  rw [e9]; exact ab_rdl k _ _ _ _
          · have e9 : F_m_rdl g n (k + 1) d wv rs a = (F_m_rdl g n k d 1 (mv g n ((F_m_puts g n rs a 22).1)) ((F_m_puts g n rs a 22).2)) := by rw [F_m_rdl_s, if_pos k0, if_pos k1, if_pos k2, if_neg k3]
            rw [e9]; exact ab_rdl k _ _ _ _
        · have e9 : F_m_rdl g n (k + 1) d wv rs a = (F_m_rdl g n k d 1 (mv g n ((F_m_puts g n rs a 21).1)) ((F_m_puts g n rs a 21).2)) := by rw [F_m_rdl_s, if_pos k0, if_pos k1, if_neg k2]
          rw [e9]; exact ab_rdl k _ _ _ _
      · have e9 : F_m_rdl g n (k + 1) d wv rs a = (F_m_rdl g n k d 1 (mv g n ((F_m_puts g n rs a 20).1)) ((F_m_puts g n rs a 20).2)) := by rw [F_m_rdl_s, if_pos k0, if_neg k1]
        rw [e9]; exact ab_rdl k _ _ _ _
    · by_cases k1 : (F_m_fact g n rs) = 0
      · by_cases k2 : (F_m_isWord g n rs 10631) = 0
        · by_cases k3 : (F_m_isSign g n rs 40) = 0
          · by_cases k4 : (mk g n (rs.2.1)) = 2
            · by_cases k5 : (nI d) = 5
              · have e9 : F_m_rdl g n (k + 1) d wv rs a = (0, (F_m_fails g n rs 5), a) := by rw [F_m_rdl_s, if_neg k0, if_pos k1, if_pos k2, if_pos k3, if_pos k4, if_pos k5]
                exact congrArg (fun x => x.2.2.1) e9
              · by_cases k6 : (F_m_fact g n rs) ≤ 0
                · have e9 : F_m_rdl g n (k + 1) d wv rs a = (F_m_rdl g n k (popn (((F_m_puts g n rs a (100 + (mt g n (rs.2.1)))).2).2.2.2.2.2.2.2.2.2.2.1) d) 0 (mv g n ((F_m_puts g n rs a (100 + (mt g n (rs.2.1)))).1)) ((F_m_puts g n rs a (100 + (mt g n (rs.2.1)))).2)) := by rw [F_m_rdl_s, if_neg k0, if_pos k1, if_pos k2, if_pos k3, if_pos k4, if_neg k5, if_pos k6]
                  rw [e9]; exact ab_rdl k _ _ _ _
                · have e9 : F_m_rdl g n (k + 1) d wv rs a = (F_m_rdl g n k (popn (((F_m_puts g n rs a (F_m_fact g n rs)).2).2.2.2.2.2.2.2.2.2.2.1) d) 0 (mv g n ((F_m_puts g n rs a (F_m_fact g n rs)).1)) ((F_m_puts g n rs a (F_m_fact g n rs)).2)) := by rw [F_m_rdl_s, if_neg k0, if_pos k1, if_pos k2, if_pos k3, if_pos k4, if_neg k5, if_neg k6]
                  rw [e9]; exact ab_rdl k _ _ _ _
            · have e9 : F_m_rdl g n (k + 1) d wv rs a = (0, (F_m_fails g n rs 1), a) := by rw [F_m_rdl_s, if_neg k0, if_pos k1, if_pos k2, if_pos k3, if_neg k4]
              exact congrArg (fun x => x.2.2.1) e9
          · by_cases k4 : (nI d) = 5
            · have e9 : F_m_rdl g n (k + 1) d wv rs a = (0, (F_m_fails g n rs 5), a) := by rw [F_m_rdl_s, if_neg k0, if_pos k1, if_pos k2, if_neg k3, if_pos k4]
              exact congrArg (fun x => x.2.2.1) e9
            · have e9 : F_m_rdl g n (k + 1) d wv rs a = (F_m_rdl g n k (d + 1) wv (mv g n ((F_m_puts g n rs a 28).1)) ((((F_m_puts g n rs a 28).2).1), (((F_m_puts g n rs a 28).2).2.1), (((F_m_puts g n rs a 28).2).2.2.1), (((F_m_puts g n rs a 28).2).2.2.2.1), (((F_m_puts g n rs a 28).2).2.2.2.2.1), (((F_m_puts g n rs a 28).2).2.2.2.2.2.1), (((F_m_puts g n rs a 28).2).2.2.2.2.2.2.1), (((F_m_puts g n rs a 28).2).2.2.2.2.2.2.2.1), (((F_m_puts g n rs a 28).2).2.2.2.2.2.2.2.2.1), (((F_m_puts g n rs a 28).2).2.2.2.2.2.2.2.2.2.1), (upd (((F_m_puts g n rs a 28).2).2.2.2.2.2.2.2.2.2.2.1) ((nI (d + 1)) : Int32).toNatClampNeg 2), (upd (((F_m_puts g n rs a 28).2).2.2.2.2.2.2.2.2.2.2.2) ((nI (d + 1)) : Int32).toNatClampNeg 0))) := by rw [F_m_rdl_s, if_neg k0, if_pos k1, if_pos k2, if_neg k3, if_neg k4]
              rw [e9]; exact ab_rdl k _ _ _ _
        · by_cases k3 : (nI d) = 5
          · have e9 : F_m_rdl g n (k + 1) d wv rs a = (0, (F_m_fails g n rs 5), a) := by rw [F_m_rdl_s, if_neg k0, if_pos k1, if_neg k2, if_pos k3]
            exact congrArg (fun x => x.2.2.1) e9
          · have e9 : F_m_rdl g n (k + 1) d wv rs a = (F_m_rdl g n k (d + 1) wv (mv g n ((F_m_puts g n rs a 30).1)) ((((F_m_puts g n rs a 30).2).1), (((F_m_puts g n rs a 30).2).2.1), (((F_m_puts g n rs a 30).2).2.2.1), (((F_m_puts g n rs a 30).2).2.2.2.1), (((F_m_puts g n rs a 30).2).2.2.2.2.1), (((F_m_puts g n rs a 30).2).2.2.2.2.2.1), (((F_m_puts g n rs a 30).2).2.2.2.2.2.2.1), (((F_m_puts g n rs a 30).2).2.2.2.2.2.2.2.1), (((F_m_puts g n rs a 30).2).2.2.2.2.2.2.2.2.1), (((F_m_puts g n rs a 30).2).2.2.2.2.2.2.2.2.2.1), (upd (((F_m_puts g n rs a 30).2).2.2.2.2.2.2.2.2.2.2.1) ((nI (d + 1)) : Int32).toNatClampNeg 1), (upd (((F_m_puts g n rs a 30).2).2.2.2.2.2.2.2.2.2.2.2) ((nI (d + 1)) : Int32).toNatClampNeg 0))) := by rw [F_m_rdl_s, if_neg k0, if_pos k1, if_neg k2, if_neg k3]
            rw [e9]; exact ab_rdl k _ _ _ _
      · by_cases k2 : (nI d) = 5
        · have e9 : F_m_rdl g n (k + 1) d wv rs a = (0, (F_m_fails g n rs 5), a) := by rw [F_m_rdl_s, if_neg k0, if_neg k1, if_pos k2]
          exact congrArg (fun x => x.2.2.1) e9
        · by_cases k3 : (F_m_isWord g n rs 10631) = 0
          · by_cases k4 : (F_m_isSign g n rs 40) = 0
            · by_cases k5 : (F_m_fact g n rs) ≤ 0
              · have e9 : F_m_rdl g n (k + 1) d wv rs a = (F_m_rdl g n k (popn (((F_m_puts g n rs a (100 + (mt g n (rs.2.1)))).2).2.2.2.2.2.2.2.2.2.2.1) d) 0 (mv g n ((F_m_puts g n rs a (100 + (mt g n (rs.2.1)))).1)) ((F_m_puts g n rs a (100 + (mt g n (rs.2.1)))).2)) := by rw [F_m_rdl_s, if_neg k0, if_neg k1, if_neg k2, if_pos k3, if_pos k4, if_pos k5]
                rw [e9]; exact ab_rdl k _ _ _ _
              · have e9 : F_m_rdl g n (k + 1) d wv rs a = (F_m_rdl g n k (popn (((F_m_puts g n rs a (F_m_fact g n rs)).2).2.2.2.2.2.2.2.2.2.2.1) d) 0 (mv g n ((F_m_puts g n rs a (F_m_fact g n rs)).1)) ((F_m_puts g n rs a (F_m_fact g n rs)).2)) := by rw [F_m_rdl_s, if_neg k0, if_neg k1, if_neg k2, if_pos k3, if_pos k4, if_neg k5]
                rw [e9]; exact ab_rdl k _ _ _ _
            · have e9 : F_m_rdl g n (k + 1) d wv rs a = (F_m_rdl g n k (d + 1) wv (mv g n ((F_m_puts g n rs a 28).1)) ((((F_m_puts g n rs a 28).2).1), (((F_m_puts g n rs a 28).2).2.1), (((F_m_puts g n rs a 28).2).2.2.1), (((F_m_puts g n rs a 28).2).2.2.2.1), (((F_m_puts g n rs a 28).2).2.2.2.2.1), (((F_m_puts g n rs a 28).2).2.2.2.2.2.1), (((F_m_puts g n rs a 28).2).2.2.2.2.2.2.1), (((F_m_puts g n rs a 28).2).2.2.2.2.2.2.2.1), (((F_m_puts g n rs a 28).2).2.2.2.2.2.2.2.2.1), (((F_m_puts g n rs a 28).2).2.2.2.2.2.2.2.2.2.1), (upd (((F_m_puts g n rs a 28).2).2.2.2.2.2.2.2.2.2.2.1) ((nI (d + 1)) : Int32).toNatClampNeg 2), (upd (((F_m_puts g n rs a 28).2).2.2.2.2.2.2.2.2.2.2.2) ((nI (d + 1)) : Int32).toNatClampNeg 0))) := by rw [F_m_rdl_s, if_neg k0, if_neg k1, if_neg k2, if_pos k3, if_neg k4]
              rw [e9]; exact ab_rdl k _ _ _ _
          · have e9 : F_m_rdl g n (k + 1) d wv rs a = (F_m_rdl g n k (d + 1) wv (mv g n ((F_m_puts g n rs a 30).1)) ((((F_m_puts g n rs a 30).2).1), (((F_m_puts g n rs a 30).2).2.1), (((F_m_puts g n rs a 30).2).2.2.1), (((F_m_puts g n rs a 30).2).2.2.2.1), (((F_m_puts g n rs a 30).2).2.2.2.2.1), (((F_m_puts g n rs a 30).2).2.2.2.2.2.1), (((F_m_puts g n rs a 30).2).2.2.2.2.2.2.1), (((F_m_puts g n rs a 30).2).2.2.2.2.2.2.2.1), (((F_m_puts g n rs a 30).2).2.2.2.2.2.2.2.2.1), (((F_m_puts g n rs a 30).2).2.2.2.2.2.2.2.2.2.1), (upd (((F_m_puts g n rs a 30).2).2.2.2.2.2.2.2.2.2.2.1) ((nI (d + 1)) : Int32).toNatClampNeg 1), (upd (((F_m_puts g n rs a 30).2).2.2.2.2.2.2.2.2.2.2.2) ((nI (d + 1)) : Int32).toNatClampNeg 0))) := by rw [F_m_rdl_s, if_neg k0, if_neg k1, if_neg k2, if_neg k3]
            rw [e9]; exact ab_rdl k _ _ _ _
theorem ok_of {a b : mAS} (e : a.1 = b.1) (hM : mOK b) : mOK a := by
  unfold mOK
  rw [e]
  exact hM
theorem ok_m_readsOne2 {lo hi : Int32} (hM : mOK a) : mOK (F_m_readsOne2 g n rs a lo hi).2.2 := by
  unfold F_m_readsOne2
  repeat' split
  all_goals exact hM
theorem ok_m_readsOne3 {lo hi : Int32} (hM : mOK a) : mOK (F_m_readsOne3 g n rs a lo hi).2.2 := by
  unfold F_m_readsOne3
  repeat' split
  all_goals exact hM
theorem ok_m_readsOne4 {lo hi : Int32} (hM : mOK a) : mOK (F_m_readsOne4 g n rs a lo hi).2.2 := by
  unfold F_m_readsOne4
  repeat' split
  all_goals exact hM
theorem ok_m_readsLaw0 (hM : mOK a) : mOK (F_m_readsLaw0 g n rs a).2.2 := by
  unfold F_m_readsLaw0 F_m_reads
  repeat' split
  all_goals first | exact hM | exact ok_of (ab_rdl _ _ _ _ _) hM
theorem ok_m_readsLaw1 (hM : mOK a) : mOK (F_m_readsLaw1 g n rs a).2.2 := by
  unfold F_m_readsLaw1 F_m_reads
  repeat' split
  all_goals first | exact hM | exact ok_of (ab_rdl _ _ _ _ _) hM
end OKMS

def F_m_usual1 (fa : Nat → Int32) : Nat → Int32 :=
  (upd (upd (upd (upd (upd fa 5 0) 6 0) 7 10) 8 10) 9 3)
set_option maxHeartbeats 4000000 in
set_option maxRecDepth 100000 in
theorem c_m_usual1 (γ : kΓ) (l : Launch) (z : Nat) (z2 : Nat) (z10 : Nat) (z11 : Nat) (z12 : Nat) (z13 : Nat) (z14 : Nat) (z15 : Nat) (z16 : Nat) (z17 : Nat) (z18 : Nat) (z19 : Nat) (z22 : Nat) (z23 : Nat) (z24 : Nat) (z25 : Nat) (z26 : Nat) (z27 : Nat) (z28 : Nat) (z29 : Nat) (z30 : Nat) (z31 : Nat) (z32 : Nat) (z33 : Nat) (z36 : Nat) (z37 : Nat) (z38 : Nat) (z39 : Nat) (z40 : Nat) (z41 : Nat) (z42 : Nat) (z43 : Nat) (z44 : Nat) (z45 : Nat) (z46 : Nat) (z47 : Nat) (z48 : Nat) (z55 : Nat) (z56 : Nat) (z59 : Nat) (z60 : Nat) (z61 : Nat) (n0 : Int32) (n1 : Int32) (n3 : Int32) (n4 : Int32) (n5 : Int32) (n6 : Int32) (n7 : Int64) (n8 : Int32) (n9 : Int32) (n20 : Int32) (n21 : Int32) (n34 : Int32) (n35 : Int64) (n49 : Int32) (n50 : Int32) (n51 : Int32) (n52 : Int32) (n53 : Int32) (n54 : Int32) (n57 : Int32) (n58 : Int32) (n62 : Int32) (n63 : Int64) (fa : Nat → Int32) : kM γ l yX12_usual cX12_usual 2 none ({ frames := 0, cells := 0, slots := 0, locals := 0 } : Room) [.ref z, .int 1] [(z, .inr (11, [.int n0, .int n1, .ref z2, .int n3, .int n4, .int n5, .int n6, .long n7, .int n8, .int n9, .ref z10, .ref z11, .ref z12, .ref z13, .ref z14, .ref z15, .ref z16, .ref z17, .ref z18, .ref z19, .int n20, .int n21, .ref z22, .ref z23, .ref z24, .ref z25, .ref z26, .ref z27, .ref z28, .ref z29, .ref z30, .ref z31, .ref z32, .ref z33, .int n34, .long n35, .ref z36, .ref z37, .ref z38, .ref z39, .ref z40, .ref z41, .ref z42, .ref z43, .ref z44, .ref z45, .ref z46, .ref z47, .ref z48, .int n49, .int n50, .int n51, .int n52, .int n53, .int n54, .ref z55, .ref z56, .int n57, .int n58, .ref z59, .ref z60, .ref z61, .int n62, .long n63])), (z10, .inl (γ.2.1 0, 10, .inl fa))] (fun r w1 => r = none ∧ w1 = [(z, .inr (11, [.int n0, .int n1, .ref z2, .int n3, .int n4, .int n5, .int n6, .long n7, .int n8, .int n9, .ref z10, .ref z11, .ref z12, .ref z13, .ref z14, .ref z15, .ref z16, .ref z17, .ref z18, .ref z19, .int n20, .int n21, .ref z22, .ref z23, .ref z24, .ref z25, .ref z26, .ref z27, .ref z28, .ref z29, .ref z30, .ref z31, .ref z32, .ref z33, .int n34, .long n35, .ref z36, .ref z37, .ref z38, .ref z39, .ref z40, .ref z41, .ref z42, .ref z43, .ref z44, .ref z45, .ref z46, .ref z47, .ref z48, .int n49, .int n50, .int n51, .int n52, .int n53, .int n54, .ref z55, .ref z56, .int n57, .int n58, .ref z59, .ref z60, .ref z61, .int n62, .long n63])), (z10, .inl (γ.2.1 0, 10, .inl (F_m_usual1 fa)))]) := by
  refine k_ofW (by decide) (Nat.le_of_ble_eq_true rfl) ?_
  intro p9 e s m below meth c A ls hC hr hlocks hname hw hl
  have hx := hC.1
  have hb := hC.2.1
  have hl : lv_has ls 2 [(0, .ref z), (1, .int 1)] := hl
  refine lv_aload_n hx hb dX12_usual_0 rfl (lv_at hl 0 rfl) ?_
  refine fg_RX12_13 hC hw 0 rfl rfl dX12_usual_1 ?_
  refine lv_iconst (v := 5) hx hb dX12_usual_4 (by decide) ?_
  refine lv_iload_n hx hb dX12_usual_5 rfl (lv_at hl 1 rfl) ?_
  refine lv_imul hx hb dX12_usual_6 ?_
  refine lv_topi (fun x_359 ex_359 => ?_)
  obtain rfl : x_359 = 5 := ex_359.trans (by decide)
  refine lv_iconst (v := 0) hx hb dX12_usual_7 (by decide) ?_
  refine lv_iadd hx hb dX12_usual_8 ?_
  refine lv_topi (fun x_360 ex_360 => ?_)
  obtain rfl : x_360 = 5 := ex_360.trans (by decide)
  refine lv_iconst (v := 0) hx hb dX12_usual_9 (by decide) ?_
  refine k_iast hC hw 1 rfl (k_in0 (by decide)) dX12_usual_10 (fun H locs hw => ?_)
  have hw : kW γ A [(z, .inr (11, [.int n0, .int n1, .ref z2, .int n3, .int n4, .int n5, .int n6, .long n7, .int n8, .int n9, .ref z10, .ref z11, .ref z12, .ref z13, .ref z14, .ref z15, .ref z16, .ref z17, .ref z18, .ref z19, .int n20, .int n21, .ref z22, .ref z23, .ref z24, .ref z25, .ref z26, .ref z27, .ref z28, .ref z29, .ref z30, .ref z31, .ref z32, .ref z33, .int n34, .long n35, .ref z36, .ref z37, .ref z38, .ref z39, .ref z40, .ref z41, .ref z42, .ref z43, .ref z44, .ref z45, .ref z46, .ref z47, .ref z48, .int n49, .int n50, .int n51, .int n52, .int n53, .int n54, .ref z55, .ref z56, .int n57, .int n58, .ref z59, .ref z60, .ref z61, .int n62, .long n63])), (z10, .inl (γ.2.1 0, 10, .inl (upd fa 5 0)))] s H locs := hw
  refine lv_aload_n hx hb dX12_usual_11 rfl (lv_at hl 0 rfl) ?_
  refine fg_RX12_13 hC hw 0 rfl rfl dX12_usual_12 ?_
  refine lv_iconst (v := 5) hx hb dX12_usual_15 (by decide) ?_
  refine lv_iload_n hx hb dX12_usual_16 rfl (lv_at hl 1 rfl) ?_
  refine lv_imul hx hb dX12_usual_17 ?_
  refine lv_topi (fun x_361 ex_361 => ?_)
  obtain rfl : x_361 = 5 := ex_361.trans (by decide)
  refine lv_iconst (v := 1) hx hb dX12_usual_18 (by decide) ?_
  refine lv_iadd hx hb dX12_usual_19 ?_
  refine lv_topi (fun x_362 ex_362 => ?_)
  obtain rfl : x_362 = 6 := ex_362.trans (by decide)
  refine lv_iconst (v := 0) hx hb dX12_usual_20 (by decide) ?_
  refine k_iast hC hw 1 rfl (k_in0 (by decide)) dX12_usual_21 (fun H locs hw => ?_)
  have hw : kW γ A [(z, .inr (11, [.int n0, .int n1, .ref z2, .int n3, .int n4, .int n5, .int n6, .long n7, .int n8, .int n9, .ref z10, .ref z11, .ref z12, .ref z13, .ref z14, .ref z15, .ref z16, .ref z17, .ref z18, .ref z19, .int n20, .int n21, .ref z22, .ref z23, .ref z24, .ref z25, .ref z26, .ref z27, .ref z28, .ref z29, .ref z30, .ref z31, .ref z32, .ref z33, .int n34, .long n35, .ref z36, .ref z37, .ref z38, .ref z39, .ref z40, .ref z41, .ref z42, .ref z43, .ref z44, .ref z45, .ref z46, .ref z47, .ref z48, .int n49, .int n50, .int n51, .int n52, .int n53, .int n54, .ref z55, .ref z56, .int n57, .int n58, .ref z59, .ref z60, .ref z61, .int n62, .long n63])), (z10, .inl (γ.2.1 0, 10, .inl (upd (upd fa 5 0) 6 0)))] s H locs := hw
  refine lv_aload_n hx hb dX12_usual_22 rfl (lv_at hl 0 rfl) ?_
  refine fg_RX12_13 hC hw 0 rfl rfl dX12_usual_23 ?_
  refine lv_iconst (v := 5) hx hb dX12_usual_26 (by decide) ?_
  refine lv_iload_n hx hb dX12_usual_27 rfl (lv_at hl 1 rfl) ?_
  refine lv_imul hx hb dX12_usual_28 ?_
  refine lv_topi (fun x_363 ex_363 => ?_)
  obtain rfl : x_363 = 5 := ex_363.trans (by decide)
  refine lv_iconst (v := 2) hx hb dX12_usual_29 (by decide) ?_
  refine lv_iadd hx hb dX12_usual_30 ?_
  refine lv_topi (fun x_364 ex_364 => ?_)
  obtain rfl : x_364 = 7 := ex_364.trans (by decide)
  refine lv_bipush (v := 10) hx hb dX12_usual_31 (by decide) ?_
  refine k_iast hC hw 1 rfl (k_in0 (by decide)) dX12_usual_33 (fun H locs hw => ?_)
  have hw : kW γ A [(z, .inr (11, [.int n0, .int n1, .ref z2, .int n3, .int n4, .int n5, .int n6, .long n7, .int n8, .int n9, .ref z10, .ref z11, .ref z12, .ref z13, .ref z14, .ref z15, .ref z16, .ref z17, .ref z18, .ref z19, .int n20, .int n21, .ref z22, .ref z23, .ref z24, .ref z25, .ref z26, .ref z27, .ref z28, .ref z29, .ref z30, .ref z31, .ref z32, .ref z33, .int n34, .long n35, .ref z36, .ref z37, .ref z38, .ref z39, .ref z40, .ref z41, .ref z42, .ref z43, .ref z44, .ref z45, .ref z46, .ref z47, .ref z48, .int n49, .int n50, .int n51, .int n52, .int n53, .int n54, .ref z55, .ref z56, .int n57, .int n58, .ref z59, .ref z60, .ref z61, .int n62, .long n63])), (z10, .inl (γ.2.1 0, 10, .inl (upd (upd (upd fa 5 0) 6 0) 7 10)))] s H locs := hw
  refine lv_aload_n hx hb dX12_usual_34 rfl (lv_at hl 0 rfl) ?_
  refine fg_RX12_13 hC hw 0 rfl rfl dX12_usual_35 ?_
  refine lv_iconst (v := 5) hx hb dX12_usual_38 (by decide) ?_
  refine lv_iload_n hx hb dX12_usual_39 rfl (lv_at hl 1 rfl) ?_
  refine lv_imul hx hb dX12_usual_40 ?_
  refine lv_topi (fun x_365 ex_365 => ?_)
  obtain rfl : x_365 = 5 := ex_365.trans (by decide)
  refine lv_iconst (v := 3) hx hb dX12_usual_41 (by decide) ?_
  refine lv_iadd hx hb dX12_usual_42 ?_
  refine lv_topi (fun x_366 ex_366 => ?_)
  obtain rfl : x_366 = 8 := ex_366.trans (by decide)
  refine lv_bipush (v := 10) hx hb dX12_usual_43 (by decide) ?_
  refine k_iast hC hw 1 rfl (k_in0 (by decide)) dX12_usual_45 (fun H locs hw => ?_)
  have hw : kW γ A [(z, .inr (11, [.int n0, .int n1, .ref z2, .int n3, .int n4, .int n5, .int n6, .long n7, .int n8, .int n9, .ref z10, .ref z11, .ref z12, .ref z13, .ref z14, .ref z15, .ref z16, .ref z17, .ref z18, .ref z19, .int n20, .int n21, .ref z22, .ref z23, .ref z24, .ref z25, .ref z26, .ref z27, .ref z28, .ref z29, .ref z30, .ref z31, .ref z32, .ref z33, .int n34, .long n35, .ref z36, .ref z37, .ref z38, .ref z39, .ref z40, .ref z41, .ref z42, .ref z43, .ref z44, .ref z45, .ref z46, .ref z47, .ref z48, .int n49, .int n50, .int n51, .int n52, .int n53, .int n54, .ref z55, .ref z56, .int n57, .int n58, .ref z59, .ref z60, .ref z61, .int n62, .long n63])), (z10, .inl (γ.2.1 0, 10, .inl (upd (upd (upd (upd fa 5 0) 6 0) 7 10) 8 10)))] s H locs := hw
  refine lv_aload_n hx hb dX12_usual_46 rfl (lv_at hl 0 rfl) ?_
  refine fg_RX12_13 hC hw 0 rfl rfl dX12_usual_47 ?_
  refine lv_iconst (v := 5) hx hb dX12_usual_50 (by decide) ?_
  refine lv_iload_n hx hb dX12_usual_51 rfl (lv_at hl 1 rfl) ?_
  refine lv_imul hx hb dX12_usual_52 ?_
  refine lv_topi (fun x_367 ex_367 => ?_)
  obtain rfl : x_367 = 5 := ex_367.trans (by decide)
  refine lv_iconst (v := 4) hx hb dX12_usual_53 (by decide) ?_
  refine lv_iadd hx hb dX12_usual_54 ?_
  refine lv_topi (fun x_368 ex_368 => ?_)
  obtain rfl : x_368 = 9 := ex_368.trans (by decide)
  refine lv_iconst (v := 3) hx hb dX12_usual_55 (by decide) ?_
  refine k_iast hC hw 1 rfl (k_in0 (by decide)) dX12_usual_56 (fun H locs hw => ?_)
  have hw : kW γ A [(z, .inr (11, [.int n0, .int n1, .ref z2, .int n3, .int n4, .int n5, .int n6, .long n7, .int n8, .int n9, .ref z10, .ref z11, .ref z12, .ref z13, .ref z14, .ref z15, .ref z16, .ref z17, .ref z18, .ref z19, .int n20, .int n21, .ref z22, .ref z23, .ref z24, .ref z25, .ref z26, .ref z27, .ref z28, .ref z29, .ref z30, .ref z31, .ref z32, .ref z33, .int n34, .long n35, .ref z36, .ref z37, .ref z38, .ref z39, .ref z40, .ref z41, .ref z42, .ref z43, .ref z44, .ref z45, .ref z46, .ref z47, .ref z48, .int n49, .int n50, .int n51, .int n52, .int n53, .int n54, .ref z55, .ref z56, .int n57, .int n58, .ref z59, .ref z60, .ref z61, .int n62, .long n63])), (z10, .inl (γ.2.1 0, 10, .inl (upd (upd (upd (upd (upd fa 5 0) 6 0) 7 10) 8 10) 9 3)))] s H locs := hw
  have hE : (F_m_usual1 fa) = (upd (upd (upd (upd (upd fa 5 0) 6 0) 7 10) 8 10) 9 3) := by unfold F_m_usual1; rfl
  have hw : kW γ A [(z, .inr (11, [.int n0, .int n1, .ref z2, .int n3, .int n4, .int n5, .int n6, .long n7, .int n8, .int n9, .ref z10, .ref z11, .ref z12, .ref z13, .ref z14, .ref z15, .ref z16, .ref z17, .ref z18, .ref z19, .int n20, .int n21, .ref z22, .ref z23, .ref z24, .ref z25, .ref z26, .ref z27, .ref z28, .ref z29, .ref z30, .ref z31, .ref z32, .ref z33, .int n34, .long n35, .ref z36, .ref z37, .ref z38, .ref z39, .ref z40, .ref z41, .ref z42, .ref z43, .ref z44, .ref z45, .ref z46, .ref z47, .ref z48, .int n49, .int n50, .int n51, .int n52, .int n53, .int n54, .ref z55, .ref z56, .int n57, .int n58, .ref z59, .ref z60, .ref z61, .int n62, .long n63])), (z10, .inl (γ.2.1 0, 10, .inl (F_m_usual1 fa)))] s H locs := by first | (rw [hE]; exact hw) | exact hw
  exact k_vret hC hr hlocks hw [0, 1] rfl rfl ⟨rfl, rfl⟩ (by decide) (by decide) dX12_usual_57

set_option maxHeartbeats 4000000 in
set_option maxRecDepth 100000 in
theorem c_m_begins (γ : kΓ) (l : Launch) (z : Nat) (z2 : Nat) (z10 : Nat) (z11 : Nat) (z12 : Nat) (z13 : Nat) (z14 : Nat) (z15 : Nat) (z16 : Nat) (z17 : Nat) (z18 : Nat) (z19 : Nat) (z22 : Nat) (z23 : Nat) (z24 : Nat) (z25 : Nat) (z26 : Nat) (z27 : Nat) (z28 : Nat) (z29 : Nat) (z30 : Nat) (z31 : Nat) (z32 : Nat) (z33 : Nat) (z36 : Nat) (z37 : Nat) (z38 : Nat) (z39 : Nat) (z40 : Nat) (z41 : Nat) (z42 : Nat) (z43 : Nat) (z44 : Nat) (z45 : Nat) (z46 : Nat) (z47 : Nat) (z48 : Nat) (z55 : Nat) (z56 : Nat) (z59 : Nat) (z60 : Nat) (z61 : Nat) (n0 : Int32) (n3 : Int32) (n4 : Int32) (n5 : Int32) (n6 : Int32) (n7 : Int64) (n8 : Int32) (n9 : Int32) (n20 : Int32) (n21 : Int32) (n34 : Int32) (n35 : Int64) (n49 : Int32) (n50 : Int32) (n51 : Int32) (n52 : Int32) (n53 : Int32) (n54 : Int32) (n57 : Int32) (n58 : Int32) (n62 : Int32) (n63 : Int64) (n : Nat) (g : Nat → Int32) (hn : n ≤ 1000) : kM γ l yX12_begins cX12_begins 1 none ({ frames := 2, cells := 0, slots := 0, locals := 61 } : Room) [.ref z] [(z, .inr (11, [.int n0, .int (nI n), .ref z2, .int n3, .int n4, .int n5, .int n6, .long n7, .int n8, .int n9, .ref z10, .ref z11, .ref z12, .ref z13, .ref z14, .ref z15, .ref z16, .ref z17, .ref z18, .ref z19, .int n20, .int n21, .ref z22, .ref z23, .ref z24, .ref z25, .ref z26, .ref z27, .ref z28, .ref z29, .ref z30, .ref z31, .ref z32, .ref z33, .int n34, .long n35, .ref z36, .ref z37, .ref z38, .ref z39, .ref z40, .ref z41, .ref z42, .ref z43, .ref z44, .ref z45, .ref z46, .ref z47, .ref z48, .int n49, .int n50, .int n51, .int n52, .int n53, .int n54, .ref z55, .ref z56, .int n57, .int n58, .ref z59, .ref z60, .ref z61, .int n62, .long n63])), (z2, .inl (γ.2.1 0, 1000, .inl g))] (fun r w1 => r = none ∧ w1 = [(z, .inr (11, [.int n0, .int 0, .ref z2, .int (nI n), .int (nI (te g n 0)), .int (nI (ts g n 0)), .int (mk g n 0), .long (mw g n 0), .int (mt g n 0), .int n9, .ref z10, .ref z11, .ref z12, .ref z13, .ref z14, .ref z15, .ref z16, .ref z17, .ref z18, .ref z19, .int n20, .int n21, .ref z22, .ref z23, .ref z24, .ref z25, .ref z26, .ref z27, .ref z28, .ref z29, .ref z30, .ref z31, .ref z32, .ref z33, .int n34, .long n35, .ref z36, .ref z37, .ref z38, .ref z39, .ref z40, .ref z41, .ref z42, .ref z43, .ref z44, .ref z45, .ref z46, .ref z47, .ref z48, .int n49, .int n50, .int n51, .int n52, .int n53, .int n54, .ref z55, .ref z56, .int n57, .int n58, .ref z59, .ref z60, .ref z61, .int n62, .long n63])), (z2, .inl (γ.2.1 0, 1000, .inl g))]) := by
  refine k_ofW (by decide) (Nat.le_of_ble_eq_true rfl) ?_
  intro p9 e s m below meth c A ls hC hr hlocks hname hw hl
  have hx := hC.1
  have hb := hC.2.1
  have hl : lv_has ls 1 [(0, .ref z)] := hl
  refine lv_aload_n hx hb dX12_begins_0 rfl (lv_at hl 0 rfl) ?_
  refine lv_aload_n hx hb dX12_begins_1 rfl (lv_at hl 0 rfl) ?_
  refine fg_RX12_148 hC hw 0 rfl rfl dX12_begins_2 ?_
  refine fs_RX12_151 hC hw 0 rfl rfl rfl (Nat.le_of_ble_eq_true rfl) dX12_begins_5 (fun H locs hw => ?_)
  have hw : kW γ A [(z, .inr (11, [.int n0, .int (nI n), .ref z2, .int (nI n), .int n4, .int n5, .int n6, .long n7, .int n8, .int n9, .ref z10, .ref z11, .ref z12, .ref z13, .ref z14, .ref z15, .ref z16, .ref z17, .ref z18, .ref z19, .int n20, .int n21, .ref z22, .ref z23, .ref z24, .ref z25, .ref z26, .ref z27, .ref z28, .ref z29, .ref z30, .ref z31, .ref z32, .ref z33, .int n34, .long n35, .ref z36, .ref z37, .ref z38, .ref z39, .ref z40, .ref z41, .ref z42, .ref z43, .ref z44, .ref z45, .ref z46, .ref z47, .ref z48, .int n49, .int n50, .int n51, .int n52, .int n53, .int n54, .ref z55, .ref z56, .int n57, .int n58, .ref z59, .ref z60, .ref z61, .int n62, .long n63])), (z2, .inl (γ.2.1 0, 1000, .inl g))] s H locs := hw
  refine lv_aload_n hx hb dX12_begins_8 rfl (lv_at hl 0 rfl) ?_
  refine lv_iconst (v := 0) hx hb dX12_begins_9 (by decide) ?_
  refine fs_RX12_148 hC hw 0 rfl rfl rfl (Nat.le_of_ble_eq_true rfl) dX12_begins_10 (fun H locs hw => ?_)
  have hw : kW γ A [(z, .inr (11, [.int n0, .int 0, .ref z2, .int (nI n), .int n4, .int n5, .int n6, .long n7, .int n8, .int n9, .ref z10, .ref z11, .ref z12, .ref z13, .ref z14, .ref z15, .ref z16, .ref z17, .ref z18, .ref z19, .int n20, .int n21, .ref z22, .ref z23, .ref z24, .ref z25, .ref z26, .ref z27, .ref z28, .ref z29, .ref z30, .ref z31, .ref z32, .ref z33, .int n34, .long n35, .ref z36, .ref z37, .ref z38, .ref z39, .ref z40, .ref z41, .ref z42, .ref z43, .ref z44, .ref z45, .ref z46, .ref z47, .ref z48, .int n49, .int n50, .int n51, .int n52, .int n53, .int n54, .ref z55, .ref z56, .int n57, .int n58, .ref z59, .ref z60, .ref z61, .int n62, .long n63])), (z2, .inl (γ.2.1 0, 1000, .inl g))] s H locs := hw
  refine lv_aload_n hx hb dX12_begins_13 rfl (lv_at hl 0 rfl) ?_
  refine lv_iconst (v := 0) hx hb dX12_begins_14 (by decide) ?_
  refine fs_RX12_154 hC hw 0 rfl rfl rfl (Nat.le_of_ble_eq_true rfl) dX12_begins_15 (fun H locs hw => ?_)
  have hw : kW γ A [(z, .inr (11, [.int n0, .int 0, .ref z2, .int (nI n), .int 0, .int n5, .int n6, .long n7, .int n8, .int n9, .ref z10, .ref z11, .ref z12, .ref z13, .ref z14, .ref z15, .ref z16, .ref z17, .ref z18, .ref z19, .int n20, .int n21, .ref z22, .ref z23, .ref z24, .ref z25, .ref z26, .ref z27, .ref z28, .ref z29, .ref z30, .ref z31, .ref z32, .ref z33, .int n34, .long n35, .ref z36, .ref z37, .ref z38, .ref z39, .ref z40, .ref z41, .ref z42, .ref z43, .ref z44, .ref z45, .ref z46, .ref z47, .ref z48, .int n49, .int n50, .int n51, .int n52, .int n53, .int n54, .ref z55, .ref z56, .int n57, .int n58, .ref z59, .ref z60, .ref z61, .int n62, .long n63])), (z2, .inl (γ.2.1 0, 1000, .inl g))] s H locs := hw
  refine lv_aload_n hx hb dX12_begins_18 rfl (lv_at hl 0 rfl) ?_
  refine k_V (wr := []) 0 gw_1402 gw_1404 gp_54 gw_15 gw_1405 hd_X12_nextToken hC hw (c_X12_nextToken γ l z z2 z10 z11 z12 z13 z14 z15 z16 z17 z18 z19 z22 z23 z24 z25 z26 z27 z28 z29 z30 z31 z32 z33 z36 z37 z38 z39 z40 z41 z42 z43 z44 z45 z46 z47 z48 z55 z56 z59 z60 z61 n0 0 n9 n20 n21 n34 n35 n49 n50 n51 n52 n53 n54 n57 n58 n62 n63 n g 0 n5 n6 n7 n8 hn (Nat.zero_le _)) ⟨by decide, by decide⟩ ⟨by decide, by decide⟩ hl.1 rfl 0 rfl rfl rfl (Nat.le_of_ble_eq_true rfl) [0, 1] [] rfl rfl rfl rfl (by decide) dX12_begins_19 (fun r w1 H locs hq hw => ?_)
  obtain ⟨rfl, rfl⟩ := hq
  have hw : kW γ A [(z, .inr (11, [.int n0, .int 0, .ref z2, .int (nI n), .int (nI (te g n 0)), .int (nI (ts g n 0)), .int (mk g n 0), .long (mw g n 0), .int (mt g n 0), .int n9, .ref z10, .ref z11, .ref z12, .ref z13, .ref z14, .ref z15, .ref z16, .ref z17, .ref z18, .ref z19, .int n20, .int n21, .ref z22, .ref z23, .ref z24, .ref z25, .ref z26, .ref z27, .ref z28, .ref z29, .ref z30, .ref z31, .ref z32, .ref z33, .int n34, .long n35, .ref z36, .ref z37, .ref z38, .ref z39, .ref z40, .ref z41, .ref z42, .ref z43, .ref z44, .ref z45, .ref z46, .ref z47, .ref z48, .int n49, .int n50, .int n51, .int n52, .int n53, .int n54, .ref z55, .ref z56, .int n57, .int n58, .ref z59, .ref z60, .ref z61, .int n62, .long n63])), (z2, .inl (γ.2.1 0, 1000, .inl g))] s H locs := hw
  refine W.eq (g2 := F0 m 22 ls []) rfl ?_
  exact k_vret hC hr hlocks hw [0, 1] rfl rfl ⟨rfl, rfl⟩ (by decide) (by decide) dX12_begins_22


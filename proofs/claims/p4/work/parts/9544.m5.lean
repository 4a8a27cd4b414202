theorem dX12_readsLaw_0 : decode cX12_readsLaw 0 = .ok (.aload_n 0, 1) := by decide +kernel
theorem dX12_readsLaw_1 : decode cX12_readsLaw 1 = .ok (.getfield 38, 3) := by decide +kernel
theorem dX12_readsLaw_4 : decode cX12_readsLaw 4 = .ok (.iconst 2, 1) := by decide +kernel
theorem dX12_readsLaw_5 : decode cX12_readsLaw 5 = .ok (.iload_n 1, 1) := by decide +kernel
theorem dX12_readsLaw_6 : decode cX12_readsLaw 6 = .ok (.iadd, 1) := by decide +kernel
theorem dX12_readsLaw_7 : decode cX12_readsLaw 7 = .ok (.iaload, 1) := by decide +kernel
theorem dX12_readsLaw_8 : decode cX12_readsLaw 8 = .ok (.aload_n 0, 1) := by decide +kernel
theorem dX12_readsLaw_9 : decode cX12_readsLaw 9 = .ok (.getfield 35, 3) := by decide +kernel
theorem dX12_readsLaw_12 : decode cX12_readsLaw 12 = .ok (.iconst 2, 1) := by decide +kernel
theorem dX12_readsLaw_13 : decode cX12_readsLaw 13 = .ok (.iload_n 1, 1) := by decide +kernel
theorem dX12_readsLaw_14 : decode cX12_readsLaw 14 = .ok (.iadd, 1) := by decide +kernel
theorem dX12_readsLaw_15 : decode cX12_readsLaw 15 = .ok (.iaload, 1) := by decide +kernel
theorem dX12_readsLaw_16 : decode cX12_readsLaw 16 = .ok (.if_icmp .le 9, 3) := by decide +kernel
theorem dX12_readsLaw_19 : decode cX12_readsLaw 19 = .ok (.aload_n 0, 1) := by decide +kernel
theorem dX12_readsLaw_20 : decode cX12_readsLaw 20 = .ok (.iconst 3, 1) := by decide +kernel
theorem dX12_readsLaw_21 : decode cX12_readsLaw 21 = .ok (.invokevirtual 206, 3) := by decide +kernel
theorem dX12_readsLaw_24 : decode cX12_readsLaw 24 = .ok (.ireturn, 1) := by decide +kernel
theorem dX12_readsLaw_25 : decode cX12_readsLaw 25 = .ok (.aload_n 0, 1) := by decide +kernel
theorem dX12_readsLaw_26 : decode cX12_readsLaw 26 = .ok (.invokevirtual 212, 3) := by decide +kernel
theorem dX12_readsLaw_29 : decode cX12_readsLaw 29 = .ok (.aload_n 0, 1) := by decide +kernel
theorem dX12_readsLaw_30 : decode cX12_readsLaw 30 = .ok (.getfield 35, 3) := by decide +kernel
theorem dX12_readsLaw_33 : decode cX12_readsLaw 33 = .ok (.iconst 2, 1) := by decide +kernel
theorem dX12_readsLaw_34 : decode cX12_readsLaw 34 = .ok (.iload_n 1, 1) := by decide +kernel
theorem dX12_readsLaw_35 : decode cX12_readsLaw 35 = .ok (.iadd, 1) := by decide +kernel
theorem dX12_readsLaw_36 : decode cX12_readsLaw 36 = .ok (.aload_n 0, 1) := by decide +kernel
theorem dX12_readsLaw_37 : decode cX12_readsLaw 37 = .ok (.getfield 181, 3) := by decide +kernel
theorem dX12_readsLaw_40 : decode cX12_readsLaw 40 = .ok (.iastore, 1) := by decide +kernel
theorem dX12_readsLaw_41 : decode cX12_readsLaw 41 = .ok (.aload_n 0, 1) := by decide +kernel
theorem dX12_readsLaw_42 : decode cX12_readsLaw 42 = .ok (.invokevirtual 302, 3) := by decide +kernel
theorem dX12_readsLaw_45 : decode cX12_readsLaw 45 = .ok (.ifCond .ne 5, 3) := by decide +kernel
theorem dX12_readsLaw_48 : decode cX12_readsLaw 48 = .ok (.iconst 0, 1) := by decide +kernel
theorem dX12_readsLaw_49 : decode cX12_readsLaw 49 = .ok (.ireturn, 1) := by decide +kernel
theorem dX12_readsLaw_50 : decode cX12_readsLaw 50 = .ok (.aload_n 0, 1) := by decide +kernel
theorem dX12_readsLaw_51 : decode cX12_readsLaw 51 = .ok (.getfield 38, 3) := by decide +kernel
theorem dX12_readsLaw_54 : decode cX12_readsLaw 54 = .ok (.iconst 2, 1) := by decide +kernel
theorem dX12_readsLaw_55 : decode cX12_readsLaw 55 = .ok (.iload_n 1, 1) := by decide +kernel
theorem dX12_readsLaw_56 : decode cX12_readsLaw 56 = .ok (.iadd, 1) := by decide +kernel
theorem dX12_readsLaw_57 : decode cX12_readsLaw 57 = .ok (.aload_n 0, 1) := by decide +kernel
theorem dX12_readsLaw_58 : decode cX12_readsLaw 58 = .ok (.getfield 181, 3) := by decide +kernel
theorem dX12_readsLaw_61 : decode cX12_readsLaw 61 = .ok (.iastore, 1) := by decide +kernel
theorem dX12_readsLaw_62 : decode cX12_readsLaw 62 = .ok (.iconst 1, 1) := by decide +kernel
theorem dX12_readsLaw_63 : decode cX12_readsLaw 63 = .ok (.ireturn, 1) := by decide +kernel
section MCS
variable {g : Nat → Int32} {n : Nat} {rs : mRS} {a : mAS}
theorem mC_mv (h : mC g n rs) : mC g n (mv g n rs) := by
  unfold mC at h ⊢
  have h1 : ts g n rs.2.1 ≤ ts g n (te g n rs.2.1) := ts_mono
  show rs.2.2.2.2.2 ≤ 1000 + ts g n (te g n rs.2.1)
  omega
theorem mC_step {c : Int32} (hlt : ts g n rs.2.1 < n) (h : mC g n rs) : mC g n (mv g n (F_m_puts g n rs a c).1) := cd_step (rs := rs) hlt h
theorem mC_rdl : ∀ (k d : Nat) (wv : Int32) (rs : mRS) (a : mAS), mC g n rs → mC g n (F_m_rdl g n k d wv rs a).2.1
  | 0, d, wv, rs, a, h => h
  | k + 1, d, wv, rs, a, h => by
    by_cases k0 : wv = 0
    · by_cases k1 : (F_m_isSign g n rs 43) = 0
      · by_cases k2 : (F_m_isSign g n rs 45) = 0
        · by_cases k3 : (F_m_isSign g n rs 42) = 0
          · by_cases k4 : (F_m_isSign g n rs 60) = 0
            · by_cases k5 : (F_m_isSign g n rs 61) = 0
              · by_cases k6 : (F_m_isWord g n rs 1111) = 0
                · by_cases k7 : (F_m_isWord g n rs 423) = 0
                  · by_cases k8 : (F_m_isSign g n rs 41) = 0
                    · by_cases k9 : (nI d) = 0
                      · by_cases k10 : (F_m_isSign g n rs 59) = 0
                        · have e9 : F_m_rdl g n (k + 1) d wv rs a = (0, (F_m_fails g n rs 1), a) := by rw [F_m_rdl_s, if_pos k0, if_pos k1, if_pos k2, if_pos k3, if_pos k4, if_pos k5, if_pos k6, if_pos k7, if_pos k8, if_pos k9, if_pos k10]
                          rw [e9]; exact h
                        · have e9 : F_m_rdl g n (k + 1) d wv rs a = (1, (mv g n rs), a) := by rw [F_m_rdl_s, if_pos k0, if_pos k1, if_pos k2, if_pos k3, if_pos k4, if_pos k5, if_pos k6, if_pos k7, if_pos k8, if_pos k9, if_neg k10]
                          rw [e9]; exact mC_mv h
                      · have e9 : F_m_rdl g n (k + 1) d wv rs a = (0, (F_m_fails g n rs 1), a) := by rw [F_m_rdl_s, if_pos k0, if_pos k1, if_pos k2, if_pos k3, if_pos k4, if_pos k5, if_pos k6, if_pos k7, if_pos k8, if_neg k9]
                        rw [e9]; exact h
                    · by_cases k9 : (nI d) ≤ 0
                      · by_cases k10 : (nI d) = 0
                        · by_cases k11 : (F_m_isSign g n rs 59) = 0
                          · have e9 : F_m_rdl g n (k + 1) d wv rs a = (0, (F_m_fails g n rs 1), a) := by rw [F_m_rdl_s, if_pos k0, if_pos k1, if_pos k2, if_pos k3, if_pos k4, if_pos k5, if_pos k6, if_pos k7, if_neg k8, if_pos k9, if_pos k10, if_pos k11]
                            rw [e9]; exact h
                          · have e9 : F_m_rdl g n (k + 1) d wv rs a = (1, (mv g n rs), a) := by rw [F_m_rdl_s, if_pos k0, if_pos k1, if_pos k2, if_pos k3, if_pos k4, if_pos k5, if_pos k6, if_pos k7, if_neg k8, if_pos k9, if_pos k10, if_neg k11]
                            rw [e9]; exact mC_mv h
                        · have e9 : F_m_rdl g n (k + 1) d wv rs a = (0, (F_m_fails g n rs 1), a) := by rw [F_m_rdl_s, if_pos k0, if_pos k1, if_pos k2, if_pos k3, if_pos k4, if_pos k5, if_pos k6, if_pos k7, if_neg k8, if_pos k9, if_neg k10]
                          rw [e9]; exact h
                      · have e9 : F_m_rdl g n (k + 1) d wv rs a = (F_m_rdl g n k (popn (((F_m_puts g n rs a 29).2).2.2.2.2.2.2.2.2.2.2.1) (d - 1)) wv (mv g n ((F_m_puts g n rs a 29).1)) ((F_m_puts g n rs a 29).2)) := by rw [F_m_rdl_s, if_pos k0, if_pos k1, if_pos k2, if_pos k3, if_pos k4, if_pos k5, if_pos k6, if_pos k7, if_neg k8, if_neg k9]
                        rw [e9]; exact mC_rdl k _ _ _ _ (mC_step (lt_sign (x := 41) k8) h)
                  · have e9 : F_m_rdl g n (k + 1) d wv rs a = (F_m_rdl g n k d 1 (mv g n ((F_m_puts g n rs a 27).1)) ((((F_m_puts g n rs a 27).2).1), (((F_m_puts g n rs a 27).2).2.1), (((F_m_puts g n rs a 27).2).2.2.1), (((F_m_puts g n rs a 27).2).2.2.2.1), (((F_m_puts g n rs a 27).2).2.2.2.2.1), (((F_m_puts g n rs a 27).2).2.2.2.2.2.1), (((F_m_puts g n rs a 27).2).2.2.2.2.2.2.1), (((F_m_puts g n rs a 27).2).2.2.2.2.2.2.2.1), (((F_m_puts g n rs a 27).2).2.2.2.2.2.2.2.2.1), (((F_m_puts g n rs a 27).2).2.2.2.2.2.2.2.2.2.1), (((F_m_puts g n rs a 27).2).2.2.2.2.2.2.2.2.2.2.1), (upd (((F_m_puts g n rs a 27).2).2.2.2.2.2.2.2.2.2.2.2) ((nI d) : Int32).toNatClampNeg 0))) := by rw [F_m_rdl_s, if_pos k0, if_pos k1, if_pos k2, if_pos k3, if_pos k4, if_pos k5, if_pos k6, if_neg k7]
                    rw [e9]; exact mC_rdl k _ _ _ _ (mC_step (lt_word (x := 423) k7) h)
                · have e9 : F_m_rdl g n (k + 1) d wv rs a = (F_m_rdl g n k d 1 (mv g n ((F_m_puts g n rs a 26).1)) ((((F_m_puts g n rs a 26).2).1), (((F_m_puts g n rs a 26).2).2.1), (((F_m_puts g n rs a 26).2).2.2.1), (((F_m_puts g n rs a 26).2).2.2.2.1), (((F_m_puts g n rs a 26).2).2.2.2.2.1), (((F_m_puts g n rs a 26).2).2.2.2.2.2.1), (((F_m_puts g n rs a 26).2).2.2.2.2.2.2.1), (((F_m_puts g n rs a 26).2).2.2.2.2.2.2.2.1), (((F_m_puts g n rs a 26).2).2.2.2.2.2.2.2.2.1), (((F_m_puts g n rs a 26).2).2.2.2.2.2.2.2.2.2.1), (((F_m_puts g n rs a 26).2).2.2.2.2.2.2.2.2.2.2.1), (upd (((F_m_puts g n rs a 26).2).2.2.2.2.2.2.2.2.2.2.2) ((nI d) : Int32).toNatClampNeg 0))) := by rw [F_m_rdl_s, if_pos k0, if_pos k1, if_pos k2, if_pos k3, if_pos k4, if_pos k5, if_neg k6]
                  rw [e9]; exact mC_rdl k _ _ _ _ (mC_step (lt_word (x := 1111) k6) h)
              · by_cases k6 : ((a.2.2.2.2.2.2.2.2.2.2.2) ((nI d) : Int32).toNatClampNeg) = 0
                · have e9 : F_m_rdl g n (k + 1) d wv rs a = (F_m_rdl g n k d 1 (mv g n ((F_m_puts g n rs a 25).1)) ((((F_m_puts g n rs a 25).2).1), (((F_m_puts g n rs a 25).2).2.1), (((F_m_puts g n rs a 25).2).2.2.1), (((F_m_puts g n rs a 25).2).2.2.2.1), (((F_m_puts g n rs a 25).2).2.2.2.2.1), (((F_m_puts g n rs a 25).2).2.2.2.2.2.1), (((F_m_puts g n rs a 25).2).2.2.2.2.2.2.1), (((F_m_puts g n rs a 25).2).2.2.2.2.2.2.2.1), (((F_m_puts g n rs a 25).2).2.2.2.2.2.2.2.2.1), (((F_m_puts g n rs a 25).2).2.2.2.2.2.2.2.2.2.1), (((F_m_puts g n rs a 25).2).2.2.2.2.2.2.2.2.2.2.1), (upd (((F_m_puts g n rs a 25).2).2.2.2.2.2.2.2.2.2.2.2) ((nI d) : Int32).toNatClampNeg 1))) := by rw [F_m_rdl_s, if_pos k0, if_pos k1, if_pos k2, if_pos k3, if_pos k4, if_neg k5, if_pos k6]
                  rw [e9]; exact mC_rdl k _ _ _ _ (mC_step (lt_sign (x := 61) k5) h)
                · by_cases k7 : (F_m_isWord g n rs 1111) = 0
                  · by_cases k8 : (F_m_isWord g n rs 423) = 0
                    · by_cases k9 : (F_m_isSign g n rs 41) = 0
                      · by_cases k10 : (nI d) = 0
                        · by_cases k11 : (F_m_isSign g n rs 59) = 0
                          · have e9 : F_m_rdl g n (k + 1) d wv rs a = (0, (F_m_fails g n rs 1), a) := by rw [F_m_rdl_s, if_pos k0, if_pos k1, if_pos k2, if_pos k3, if_pos k4, if_neg k5, if_neg k6, if_pos k7, if_pos k8, if_pos k9, if_pos k10, if_pos k11]
                            rw [e9]; exact h
                          · have e9 : F_m_rdl g n (k + 1) d wv rs a = (1, (mv g n rs), a) := by rw [F_m_rdl_s, if_pos k0, if_pos k1, if_pos k2, if_pos k3, if_pos k4, if_neg k5, if_neg k6, if_pos k7, if_pos k8, if_pos k9, if_pos k10, if_neg k11]
                            rw [e9]; exact mC_mv h
                        · have e9 : F_m_rdl g n (k + 1) d wv rs a = (0, (F_m_fails g n rs 1), a) := by rw [F_m_rdl_s, if_pos k0, if_pos k1, if_pos k2, if_pos k3, if_pos k4, if_neg k5, if_neg k6, if_pos k7, if_pos k8, if_pos k9, if_neg k10]
                          rw [e9]; exact h
                      · by_cases k10 : (nI d) ≤ 0
                        · by_cases k11 : (nI d) = 0
                          · by_cases k12 : (F_m_isSign g n rs 59) = 0
                            · have e9 : F_m_rdl g n (k + 1) d wv rs a = (0, (F_m_fails g n rs 1), a) := by rw [F_m_rdl_s, if_pos k0, if_pos k1, if_pos k2, if_pos k3, if_pos k4, if_neg k5, if_neg k6, if_pos k7, if_pos k8, if_neg k9, if_pos k10, if_pos k11, if_pos k12]
                              rw [e9]; exact h
                            · have e9 : F_m_rdl g n (k + 1) d wv rs a = (1, (mv g n rs), a) := by rw [F_m_rdl_s, if_pos k0, if_pos k1, if_pos k2, if_pos k3, if_pos k4, if_neg k5, if_neg k6, if_pos k7, if_pos k8, if_neg k9, if_pos k10, if_pos k11, if_neg k12]
                              rw [e9]; exact mC_mv h
                          · have e9 : F_m_rdl g n (k + 1) d wv rs a = (0, (F_m_fails g n rs 1), a) := by rw [F_m_rdl_s, if_pos k0, if_pos k1, if_pos k2, if_pos k3, if_pos k4, if_neg k5, if_neg k6, if_pos k7, if_pos k8, if_neg k9, if_pos k10, if_neg k11]
                            rw [e9]; exact h
                        · have e9 : F_m_rdl g n (k + 1) d wv rs a = (F_m_rdl g n k (popn (((F_m_puts g n rs a 29).2).2.2.2.2.2.2.2.2.2.2.1) (d - 1)) wv (mv g n ((F_m_puts g n rs a 29).1)) ((F_m_puts g n rs a 29).2)) := by rw [F_m_rdl_s, if_pos k0, if_pos k1, if_pos k2, if_pos k3, if_pos k4, if_neg k5, if_neg k6, if_pos k7, if_pos k8, if_neg k9, if_neg k10]
                          rw [e9]; exact mC_rdl k _ _ _ _ (mC_step (lt_sign (x := 61) k5) h)
                    · have e9 : F_m_rdl g n (k + 1) d wv rs a = (F_m_rdl g n k d 1 (mv g n ((F_m_puts g n rs a 27).1)) ((((F_m_puts g n rs a 27).2).1), (((F_m_puts g n rs a 27).2).2.1), (((F_m_puts g n rs a 27).2).2.2.1), (((F_m_puts g n rs a 27).2).2.2.2.1), (((F_m_puts g n rs a 27).2).2.2.2.2.1), (((F_m_puts g n rs a 27).2).2.2.2.2.2.1), (((F_m_puts g n rs a 27).2).2.2.2.2.2.2.1), (((F_m_puts g n rs a 27).2).2.2.2.2.2.2.2.1), (((F_m_puts g n rs a 27).2).2.2.2.2.2.2.2.2.1), (((F_m_puts g n rs a 27).2).2.2.2.2.2.2.2.2.2.1), (((F_m_puts g n rs a 27).2).2.2.2.2.2.2.2.2.2.2.1), (upd (((F_m_puts g n rs a 27).2).2.2.2.2.2.2.2.2.2.2.2) ((nI d) : Int32).toNatClampNeg 0))) := by rw [F_m_rdl_s, if_pos k0, if_pos k1, if_pos k2, if_pos k3, if_pos k4, if_neg k5, if_neg k6, if_pos k7, if_neg k8]
                      rw [e9]; exact mC_rdl k _ _ _ _ (mC_step (lt_sign (x := 61) k5) h)
                  · have e9 : F_m_rdl g n (k + 1) d wv rs a = (F_m_rdl g n k d 1 (mv g n ((F_m_puts g n rs a 26).1)) ((((F_m_puts g n rs a 26).2).1), (((F_m_puts g n rs a 26).2).2.1), (((F_m_puts g n rs a 26).2).2.2.1), (((F_m_puts g n rs a 26).2).2.2.2.1), (((F_m_puts g n rs a 26).2).2.2.2.2.1), (((F_m_puts g n rs a 26).2).2.2.2.2.2.1), (((F_m_puts g n rs a 26).2).2.2.2.2.2.2.1), (((F_m_puts g n rs a 26).2).2.2.2.2.2.2.2.1), (((F_m_puts g n rs a 26).2).2.2.2.2.2.2.2.2.1), (((F_m_puts g n rs a 26).2).2.2.2.2.2.2.2.2.2.1), (((F_m_puts g n rs a 26).2).2.2.2.2.2.2.2.2.2.2.1), (upd (((F_m_puts g n rs a 26).2).2.2.2.2.2.2.2.2.2.2.2) ((nI d) : Int32).toNatClampNeg 0))) := by rw [F_m_rdl_s, if_pos k0, if_pos k1, if_pos k2, if_pos k3, if_pos k4, if_neg k5, if_neg k6, if_neg k7]
                    rw [e9]; exact mC_rdl k _ _ _ _ (mC_step (lt_sign (x := 61) k5) h)
            · by_cases k5 : ((a.2.2.2.2.2.2.2.2.2.2.2) ((nI d) : Int32).toNatClampNeg) = 0
              · have e9 : F_m_rdl g n (k + 1) d wv rs a = (F_m_rdl g n k d 1 (mv g n ((F_m_puts g n rs a 24).1)) ((((F_m_puts g n rs a 24).2).1), (((F_m_puts g n rs a 24).2).2.1), (((F_m_puts g n rs a 24).2).2.2.1), (((F_m_puts g n rs a 24).2).2.2.2.1), (((F_m_puts g n rs a 24).2).2.2.2.2.1), (((F_m_puts g n rs a 24).2).2.2.2.2.2.1), (((F_m_puts g n rs a 24).2).2.2.2.2.2.2.1), (((F_m_puts g n rs a 24).2).2.2.2.2.2.2.2.1), (((F_m_puts g n rs a 24).2).2.2.2.2.2.2.2.2.1), (((F_m_puts g n rs a 24).2).2.2.2.2.2.2.2.2.2.1), (((F_m_puts g n rs a 24).2).2.2.2.2.2.2.2.2.2.2.1), (upd (((F_m_puts g n rs a 24).2).2.2.2.2.2.2.2.2.2.2.2) ((nI d) : Int32).toNatClampNeg 1))) := by rw [F_m_rdl_s, if_pos k0, if_pos k1, if_pos k2, if_pos k3, if_neg k4, if_pos k5]
                rw [e9]; exact mC_rdl k _ _ _ _ (mC_step (lt_sign (x := 60) k4) h)
              · by_cases k6 : (F_m_isWord g n rs 1111) = 0
                · by_cases k7 : (F_m_isWord g n rs 423) = 0
                  · by_cases k8 : (F_m_isSign g n rs 41) = 0
                    · by_cases k9 : (nI d) = 0
                      · by_cases k10 : (F_m_isSign g n rs 59) = 0
                        · have e9 : F_m_rdl g n (k + 1) d wv rs a = (0, (F_m_fails g n rs 1), a) := by rw [F_m_rdl_s, if_pos k0, if_pos k1, if_pos k2, if_pos k3, if_neg k4, if_neg k5, if_pos k6, if_pos k7, if_pos k8, if_pos k9, if_pos k10]
                          rw [e9]; exact h
                        · have e9 : F_m_rdl g n (k + 1) d wv rs a = (1, (mv g n rs), a) := by rw [F_m_rdl_s, if_pos k0, if_pos k1, if_pos k2, if_pos k3, if_neg k4, if_neg k5, if_pos k6, if_pos k7, if_pos k8, if_pos k9, if_neg k10]
                          rw [e9]; exact mC_mv h
                      · have e9 : F_m_rdl g n (k + 1) d wv rs a = (0, (F_m_fails g n rs 1), a) := by rw [F_m_rdl_s, if_pos k0, if_pos k1, if_pos k2, if_pos k3, if_neg k4, if_neg k5, if_pos k6, if_pos k7, if_pos k8, if_neg k9]
                        rw [e9]; exact h
                    · by_cases k9 : (nI d) ≤ 0
                      · by_cases k10 : (nI d) = 0
                        · by_cases k11 : (F_m_isSign g n rs 59) = 0
                          · have e9 : F_m_rdl g n (k + 1) d wv rs a = (0, (F_m_fails g n rs 1), a) := by rw [F_m_rdl_s, if_pos k0, if_pos k1, if_pos k2, if_pos k3, if_neg k4, if_neg k5, if_pos k6, if_pos k7, if_neg k8, if_pos k9, if_pos k10, if_pos k11]
                            rw [e9]; exact h
                          · have e9 : F_m_rdl g n (k + 1) d wv rs a = (1, (mv g n rs), a) := by rw [F_m_rdl_s, if_pos k0, if_pos k1, if_pos k2, if_pos k3, if_neg k4, if_neg k5, if_pos k6, if_pos k7, if_neg k8, if_pos k9, if_pos k10, if_neg k11]
                            rw [e9]; exact mC_mv h
                        · have e9 : F_m_rdl g n (k + 1) d wv rs a = (0, (F_m_fails g n rs 1), a) := by rw [F_m_rdl_s, if_pos k0, if_pos k1, if_pos k2, if_pos k3, if_neg k4, if_neg k5, if_pos k6, if_pos k7, if_neg k8, if_pos k9, if_neg k10]
                          rw [e9]; exact h
                      · have e9 : F_m_rdl g n (k + 1) d wv rs a = (F_m_rdl g n k (popn (((F_m_puts g n rs a 29).2).2.2.2.2.2.2.2.2.2.2.1) (d - 1)) wv (mv g n ((F_m_puts g n rs a 29).1)) ((F_m_puts g n rs a 29).2)) := by rw [F_m_rdl_s, if_pos k0, if_pos k1, if_pos k2, if_pos k3, if_neg k4, if_neg k5, if_pos k6, if_pos k7, if_neg k8, if_neg k9]
                        rw [e9]; exact mC_rdl k _ _ _ _ (mC_step (lt_sign (x := 60) k4) h)
                  · have e9 : F_m_rdl g n (k + 1) d wv rs a = (F_m_rdl g n k d 1 (mv g n ((F_m_puts g n rs a 27).1)) ((((F_m_puts g n rs a 27).2).1), (((F_m_puts g n rs a 27).2).2.1), (((F_m_puts g n rs a 27).2).2.2.1), (((F_m_puts g n rs a 27).2).2.2.2.1), (((F_m_puts g n rs a 27).2).2.2.2.2.1), (((F_m_puts g n rs a 27).2).2.2.2.2.2.1), (((F_m_puts g n rs a 27).2).2.2.2.2.2.2.1), (((F_m_puts g n rs a 27).2).2.2.2.2.2.2.2.1), (((F_m_puts g n rs a 27).2).2.2.2.2.2.2.2.2.1), (((F_m_puts g n rs a 27).2).2.2.2.2.2.2.2.2.2.1), (((F_m_puts g n rs a 27).2).2.2.2.2.2.2.2.2.2.2.1), (upd (((F_m_puts g n rs a 27).2).2.2.2.2.2.2.2.2.2.2.2) ((nI d) : Int32).toNatClampNeg 0))) := by rw [F_m_rdl_s, if_pos k0, if_pos k1, if_pos k2, if_pos k3, if_neg k4, if_neg k5, if_pos k6, if_neg k7]
                    rw [e9]; exact mC_rdl k _ _ _ _ (mC_step (lt_sign (x := 60) k4) h)
                · have e9 : F_m_rdl g n (k + 1) d wv rs a = (F_m_rdl g n k d 1 (mv g n ((F_m_puts g n rs a 26).1)) ((((F_m_puts g n rs a 26).2).1), (((F_m_puts g n rs a 26).2).2.1), (((F_m_puts g n rs a 26).2).2.2.1), (((F_m_puts g n rs a 26).2).2.2.2.1), (((F_m_puts g n rs a 26).2).2.2.2.2.1), (((F_m_puts g n rs a 26).2).2.2.2.2.2.1), (((F_m_puts g n rs a 26).2).2.2.2.2.2.2.1), (((F_m_puts g n rs a 26).2).2.2.2.2.2.2.2.1), (((F_m_puts g n rs a 26).2).2.2.2.2.2.2.2.2.1), (((F_m_puts g n rs a 26).2).2.2.2.2.2.2.2.2.2.1), (((F_m_puts g n rs a 26).2).2.2.2.2.2.2.2.2.2.2.1), (upd (((F_m_puts g n rs a 26).2).2.2.2.2.2.2.2.2.2.2.2) ((nI d) : Int32).toNatClampNeg 0))) := by rw [F_m_rdl_s, if_pos k0, if_pos k1, if_pos k2, if_pos k3, if_neg k4, if_neg k5, if_neg k6]
                  rw [e9]; exact mC_rdl k _ _ _ _ (mC_step (lt_sign (x := 60) k4) h)
          · have e9 : F_m_rdl g n (k + 1) d wv rs a = (F_m_rdl g n k d 1 (mv g n ((F_m_puts g n rs a 22).1)) ((F_m_puts g n rs a 22).2)) := by rw [F_m_rdl_s, if_pos k0, if_pos k1, if_pos k2, if_neg k3]
            rw [e9]; exact mC_rdl k _ _ _ _ (mC_step (lt_sign (x := 42) k3) h)
        · have e9 : F_m_rdl g n (k + 1) d wv rs a = (F_m_rdl g n k d 1 (mv g n ((F_m_puts g n rs a 21).1)) ((F_m_puts g n rs a 21).2)) := by rw [F_m_rdl_s, if_pos k0, if_pos k1, if_neg k2]
          rw [e9]; exact mC_rdl k _ _ _ _ (mC_step (lt_sign (x := 45) k2) h)
      · have e9 : F_m_rdl g n (k + 1) d wv rs a = (F_m_rdl g n k d 1 (mv g n ((F_m_puts g n rs a 20).1)) ((F_m_puts g n rs a 20).2)) := by rw [F_m_rdl_s, if_pos k0, if_neg k1]
        rw [e9]; exact mC_rdl k _ _ _ _ (mC_step (lt_sign (x := 43) k1) h)
    · by_cases k1 : (F_m_fact g n rs) = 0
      · by_cases k2 : (F_m_isWord g n rs 10631) = 0
        · by_cases k3 : (F_m_isSign g n rs 40) = 0
          · by_cases k4 : (mk g n (rs.2.1)) = 2
            · by_cases k5 : (nI d) = 5
              · have e9 : F_m_rdl g n (k + 1) d wv rs a = (0, (F_m_fails g n rs 5), a) := by rw [F_m_rdl_s, if_neg k0, if_pos k1, if_pos k2, if_pos k3, if_pos k4, if_pos k5]
                rw [e9]; exact h
              · by_cases k6 : (F_m_fact g n rs) ≤ 0
                · have e9 : F_m_rdl g n (k + 1) d wv rs a = (F_m_rdl g n k (popn (((F_m_puts g n rs a (100 + (mt g n (rs.2.1)))).2).2.2.2.2.2.2.2.2.2.2.1) d) 0 (mv g n ((F_m_puts g n rs a (100 + (mt g n (rs.2.1)))).1)) ((F_m_puts g n rs a (100 + (mt g n (rs.2.1)))).2)) := by rw [F_m_rdl_s, if_neg k0, if_pos k1, if_pos k2, if_pos k3, if_pos k4, if_neg k5, if_pos k6]
                  rw [e9]; exact mC_rdl k _ _ _ _ (mC_step (lt_k2 k4) h)
                · have e9 : F_m_rdl g n (k + 1) d wv rs a = (F_m_rdl g n k (popn (((F_m_puts g n rs a (F_m_fact g n rs)).2).2.2.2.2.2.2.2.2.2.2.1) d) 0 (mv g n ((F_m_puts g n rs a (F_m_fact g n rs)).1)) ((F_m_puts g n rs a (F_m_fact g n rs)).2)) := by rw [F_m_rdl_s, if_neg k0, if_pos k1, if_pos k2, if_pos k3, if_pos k4, if_neg k5, if_neg k6]
                  rw [e9]; exact mC_rdl k _ _ _ _ (mC_step (lt_k2 k4) h)
            · have e9 : F_m_rdl g n (k + 1) d wv rs a = (0, (F_m_fails g n rs 1), a) := by rw [F_m_rdl_s, if_neg k0, if_pos k1, if_pos k2, if_pos k3, if_neg k4]
              rw [e9]; exact h
          · by_cases k4 : (nI d) = 5
            · have e9 : F_m_rdl g n (k + 1) d wv rs a = (0, (F_m_fails g n rs 5), a) := by rw [F_m_rdl_s, if_neg k0, if_pos k1, if_pos k2, if_neg k3, if_pos k4]
              rw [e9]; exact h
            · have e9 : F_m_rdl g n (k + 1) d wv rs a = (F_m_rdl g n k (d + 1) wv (mv g n ((F_m_puts g n rs a 28).1)) ((((F_m_puts g n rs a 28).2).1), (((F_m_puts g n rs a 28).2).2.1), (((F_m_puts g n rs a 28).2).2.2.1), (((F_m_puts g n rs a 28).2).2.2.2.1), (((F_m_puts g n rs a 28).2).2.2.2.2.1), (((F_m_puts g n rs a 28).2).2.2.2.2.2.1), (((F_m_puts g n rs a 28).2).2.2.2.2.2.2.1), (((F_m_puts g n rs a 28).2).2.2.2.2.2.2.2.1), (((F_m_puts g n rs a 28).2).2.2.2.2.2.2.2.2.1), (((F_m_puts g n rs a 28).2).2.2.2.2.2.2.2.2.2.1), (upd (((F_m_puts g n rs a 28).2).2.2.2.2.2.2.2.2.2.2.1) ((nI (d + 1)) : Int32).toNatClampNeg 2), (upd (((F_m_puts g n rs a 28).2).2.2.2.2.2.2.2.2.2.2.2) ((nI (d + 1)) : Int32).toNatClampNeg 0))) := by rw [F_m_rdl_s, if_neg k0, if_pos k1, if_pos k2, if_neg k3, if_neg k4]
              rw [e9]; exact mC_rdl k _ _ _ _ (mC_step (lt_sign (x := 40) k3) h)
        · by_cases k3 : (nI d) = 5
          · have e9 : F_m_rdl g n (k + 1) d wv rs a = (0, (F_m_fails g n rs 5), a) := by rw [F_m_rdl_s, if_neg k0, if_pos k1, if_neg k2, if_pos k3]
            rw [e9]; exact h
          · have e9 : F_m_rdl g n (k + 1) d wv rs a = (F_m_rdl g n k (d + 1) wv (mv g n ((F_m_puts g n rs a 30).1)) ((((F_m_puts g n rs a 30).2).1), (((F_m_puts g n rs a 30).2).2.1), (((F_m_puts g n rs a 30).2).2.2.1), (((F_m_puts g n rs a 30).2).2.2.2.1), (((F_m_puts g n rs a 30).2).2.2.2.2.1), (((F_m_puts g n rs a 30).2).2.2.2.2.2.1), (((F_m_puts g n rs a 30).2).2.2.2.2.2.2.1), (((F_m_puts g n rs a 30).2).2.2.2.2.2.2.2.1), (((F_m_puts g n rs a 30).2).2.2.2.2.2.2.2.2.1), (((F_m_puts g n rs a 30).2).2.2.2.2.2.2.2.2.2.1), (upd (((F_m_puts g n rs a 30).2).2.2.2.2.2.2.2.2.2.2.1) ((nI (d + 1)) : Int32).toNatClampNeg 1), (upd (((F_m_puts g n rs a 30).2).2.2.2.2.2.2.2.2.2.2.2) ((nI (d + 1)) : Int32).toNatClampNeg 0))) := by rw [F_m_rdl_s, if_neg k0, if_pos k1, if_neg k2, if_neg k3]
            rw [e9]; exact mC_rdl k _ _ _ _ (mC_step (lt_word (x := 10631) k2) h)
      · by_cases k2 : (nI d) = 5
        · have e9 : F_m_rdl g n (k + 1) d wv rs a = (0, (F_m_fails g n rs 5), a) := by rw [F_m_rdl_s, if_neg k0, if_neg k1, if_pos k2]
          rw [e9]; exact h
        · by_cases k3 : (F_m_isWord g n rs 10631) = 0
          · by_cases k4 : (F_m_isSign g n rs 40) = 0
            · by_cases k5 : (F_m_fact g n rs) ≤ 0
              · have e9 : F_m_rdl g n (k + 1) d wv rs a = (F_m_rdl g n k (popn (((F_m_puts g n rs a (100 + (mt g n (rs.2.1)))).2).2.2.2.2.2.2.2.2.2.2.1) d) 0 (mv g n ((F_m_puts g n rs a (100 + (mt g n (rs.2.1)))).1)) ((F_m_puts g n rs a (100 + (mt g n (rs.2.1)))).2)) := by rw [F_m_rdl_s, if_neg k0, if_neg k1, if_neg k2, if_pos k3, if_pos k4, if_pos k5]
                rw [e9]; exact mC_rdl k _ _ _ _ (mC_step (lt_fact k1) h)
              · have e9 : F_m_rdl g n (k + 1) d wv rs a = (F_m_rdl g n k (popn (((F_m_puts g n rs a (F_m_fact g n rs)).2).2.2.2.2.2.2.2.2.2.2.1) d) 0 (mv g n ((F_m_puts g n rs a (F_m_fact g n rs)).1)) ((F_m_puts g n rs a (F_m_fact g n rs)).2)) := by rw [F_m_rdl_s, if_neg k0, if_neg k1, if_neg k2, if_pos k3, if_pos k4, if_neg k5]
                rw [e9]; exact mC_rdl k _ _ _ _ (mC_step (lt_fact k1) h)
            · have e9 : F_m_rdl g n (k + 1) d wv rs a = (F_m_rdl g n k (d + 1) wv (mv g n ((F_m_puts g n rs a 28).1)) ((((F_m_puts g n rs a 28).2).1), (((F_m_puts g n rs a 28).2).2.1), (((F_m_puts g n rs a 28).2).2.2.1), (((F_m_puts g n rs a 28).2).2.2.2.1), (((F_m_puts g n rs a 28).2).2.2.2.2.1), (((F_m_puts g n rs a 28).2).2.2.2.2.2.1), (((F_m_puts g n rs a 28).2).2.2.2.2.2.2.1), (((F_m_puts g n rs a 28).2).2.2.2.2.2.2.2.1), (((F_m_puts g n rs a 28).2).2.2.2.2.2.2.2.2.1), (((F_m_puts g n rs a 28).2).2.2.2.2.2.2.2.2.2.1), (upd (((F_m_puts g n rs a 28).2).2.2.2.2.2.2.2.2.2.2.1) ((nI (d + 1)) : Int32).toNatClampNeg 2), (upd (((F_m_puts g n rs a 28).2).2.2.2.2.2.2.2.2.2.2.2) ((nI (d + 1)) : Int32).toNatClampNeg 0))) := by rw [F_m_rdl_s, if_neg k0, if_neg k1, if_neg k2, if_pos k3, if_neg k4]
              rw [e9]; exact mC_rdl k _ _ _ _ (mC_step (lt_fact k1) h)
          · have e9 : F_m_rdl g n (k + 1) d wv rs a = (F_m_rdl g n k (d + 1) wv (mv g n ((F_m_puts g n rs a 30).1)) ((((F_m_puts g n rs a 30).2).1), (((F_m_puts g n rs a 30).2).2.1), (((F_m_puts g n rs a 30).2).2.2.1), (((F_m_puts g n rs a 30).2).2.2.2.1), (((F_m_puts g n rs a 30).2).2.2.2.2.1), (((F_m_puts g n rs a 30).2).2.2.2.2.2.1), (((F_m_puts g n rs a 30).2).2.2.2.2.2.2.1), (((F_m_puts g n rs a 30).2).2.2.2.2.2.2.2.1), (((F_m_puts g n rs a 30).2).2.2.2.2.2.2.2.2.1), (((F_m_puts g n rs a 30).2).2.2.2.2.2.2.2.2.2.1), (upd (((F_m_puts g n rs a 30).2).2.2.2.2.2.2.2.2.2.2.1) ((nI (d + 1)) : Int32).toNatClampNeg 1), (upd (((F_m_puts g n rs a 30).2).2.2.2.2.2.2.2.2.2.2.2) ((nI (d + 1)) : Int32).toNatClampNeg 0))) := by rw [F_m_rdl_s, if_neg k0, if_neg k1, if_neg k2, if_neg k3]
            rw [e9]; exact mC_rdl k _ _ _ _ (mC_step (lt_fact k1) h)
theorem mC_reads (h : mC g n rs) : mC g n (F_m_reads g n rs a).2.1 := mC_rdl _ _ _ _ _ h
theorem mC_needsNumber {lo hi : Int32} (h : mC g n rs) : mC g n (F_m_needsNumber g n rs lo hi).2 := by
  unfold F_m_needsNumber
  repeat' split
  all_goals first | exact h | exact mC_mv (rs := (rs.1, rs.2.1, mt g n rs.2.1, rs.2.2.2.1, rs.2.2.2.2.1, rs.2.2.2.2.2)) h
theorem mC_needsBoth {x : Int64} {lo hi : Int32} (h : mC g n rs) : mC g n (F_m_needsBoth g n rs x lo hi).2 := by
  unfold F_m_needsBoth
  split
  · exact h
  · exact mC_needsNumber (mC_mv h)
theorem mC_closes (h : mC g n rs) : mC g n (F_m_closes g n rs).2 := by
  unfold F_m_closes
  split
  · exact h
  · exact mC_mv h
theorem mC_needsNew (h : mC g n rs) : mC g n (F_m_needsNew g n rs a).2 := by
  unfold F_m_needsNew
  repeat' split
  all_goals first | exact h | exact mC_mv (rs := (rs.1, rs.2.1, rs.2.2.1, mw g n rs.2.1, rs.2.2.2.2.1, rs.2.2.2.2.2)) h
theorem mC_needsThought1 (h : mC g n rs) : mC g n (F_m_needsThought1 g n rs a).2 := by
  unfold F_m_needsThought1
  repeat' split
  all_goals exact h
theorem mC_readsThought (h : mC g n rs) : mC g n (F_m_readsThought g n rs a).2.1 := by
  have h1 := mC_needsNew (a := a) (mC_mv h)
  have h2 := mC_needsBoth (x := 12532058) (lo := 0) (hi := 20) h1
  have h3 := mC_needsBoth (x := 316163) (lo := 0) (hi := 6) h2
  unfold F_m_readsThought
  repeat' split
  all_goals first | exact h | exact h1 | exact h2 | exact h3 | exact mC_closes h3
theorem mC_readsFollows (h : mC g n rs) : mC g n (F_m_readsFollows g n rs a).2.1 := by
  have h1 := mC_needsThought1 (a := a) (mC_mv h)
  have h2 := mC_needsThought1 (a := a) (mC_mv h1)
  unfold F_m_readsFollows
  repeat' split
  all_goals first | exact h | exact h1 | exact h2 | exact mC_closes (mC_mv h2)
theorem mC_readsTenant (h : mC g n rs) : mC g n (F_m_readsTenant g n rs a).2.1 := by
  have h1 := mC_needsNew (a := a) (mC_mv h)
  unfold F_m_readsTenant
  repeat' split
  all_goals first | exact h | exact h1 | exact mC_closes (mC_mv h1)
theorem mC_readsOne2 {lo hi : Int32} (h : mC g n rs) : mC g n (F_m_readsOne2 g n rs a lo hi).2.1 := by
  have h1 := mC_needsNumber (lo := lo) (hi := hi) (mC_mv (rs := (rs.1, rs.2.1, rs.2.2.1, rs.2.2.2.1, rs.2.2.2.2.1 ||| 4, rs.2.2.2.2.2)) h)
  unfold F_m_readsOne2
  repeat' split
  all_goals first | exact h | exact h1 | exact mC_closes h1
theorem mC_readsOne3 {lo hi : Int32} (h : mC g n rs) : mC g n (F_m_readsOne3 g n rs a lo hi).2.1 := by
  have h1 := mC_needsNumber (lo := lo) (hi := hi) (mC_mv (rs := (rs.1, rs.2.1, rs.2.2.1, rs.2.2.2.1, rs.2.2.2.2.1 ||| 8, rs.2.2.2.2.2)) h)
  unfold F_m_readsOne3
  repeat' split
  all_goals first | exact h | exact h1 | exact mC_closes h1
theorem mC_readsOne4 {lo hi : Int32} (h : mC g n rs) : mC g n (F_m_readsOne4 g n rs a lo hi).2.1 := by
  have h1 := mC_needsNumber (lo := lo) (hi := hi) (mC_mv (rs := (rs.1, rs.2.1, rs.2.2.1, rs.2.2.2.1, rs.2.2.2.2.1 ||| 16, rs.2.2.2.2.2)) h)
  unfold F_m_readsOne4
  repeat' split
  all_goals first | exact h | exact h1 | exact mC_closes h1
end MCS

def F_m_readsLaw0 (g : Nat → Int32) (n : Nat) (rs : mRS) (a : mAS) : Int32 × mRS × mAS :=
  if ((a.2.2.2.2.2.2.2.2.1) 2) ≤ ((a.2.2.2.2.2.2.2.1) 2) then (if ((F_m_reads g n (mv g n rs) ((a.1), (a.2.1), (a.2.2.1), (a.2.2.2.1), (a.2.2.2.2.1), (a.2.2.2.2.2.1), (a.2.2.2.2.2.2.1), (upd (a.2.2.2.2.2.2.2.1) 2 (nI ((mv g n rs).2.2.2.2.2))), (a.2.2.2.2.2.2.2.2.1), (a.2.2.2.2.2.2.2.2.2.1), (a.2.2.2.2.2.2.2.2.2.2.1), (a.2.2.2.2.2.2.2.2.2.2.2))).1) = 0 then (0, ((F_m_reads g n (mv g n rs) ((a.1), (a.2.1), (a.2.2.1), (a.2.2.2.1), (a.2.2.2.2.1), (a.2.2.2.2.2.1), (a.2.2.2.2.2.2.1), (upd (a.2.2.2.2.2.2.2.1) 2 (nI ((mv g n rs).2.2.2.2.2))), (a.2.2.2.2.2.2.2.2.1), (a.2.2.2.2.2.2.2.2.2.1), (a.2.2.2.2.2.2.2.2.2.2.1), (a.2.2.2.2.2.2.2.2.2.2.2))).2.1), ((F_m_reads g n (mv g n rs) ((a.1), (a.2.1), (a.2.2.1), (a.2.2.2.1), (a.2.2.2.2.1), (a.2.2.2.2.2.1), (a.2.2.2.2.2.2.1), (upd (a.2.2.2.2.2.2.2.1) 2 (nI ((mv g n rs).2.2.2.2.2))), (a.2.2.2.2.2.2.2.2.1), (a.2.2.2.2.2.2.2.2.2.1), (a.2.2.2.2.2.2.2.2.2.2.1), (a.2.2.2.2.2.2.2.2.2.2.2))).2.2)) else (1, ((F_m_reads g n (mv g n rs) ((a.1), (a.2.1), (a.2.2.1), (a.2.2.2.1), (a.2.2.2.2.1), (a.2.2.2.2.2.1), (a.2.2.2.2.2.2.1), (upd (a.2.2.2.2.2.2.2.1) 2 (nI ((mv g n rs).2.2.2.2.2))), (a.2.2.2.2.2.2.2.2.1), (a.2.2.2.2.2.2.2.2.2.1), (a.2.2.2.2.2.2.2.2.2.2.1), (a.2.2.2.2.2.2.2.2.2.2.2))).2.1), ((((F_m_reads g n (mv g n rs) ((a.1), (a.2.1), (a.2.2.1), (a.2.2.2.1), (a.2.2.2.2.1), (a.2.2.2.2.2.1), (a.2.2.2.2.2.2.1), (upd (a.2.2.2.2.2.2.2.1) 2 (nI ((mv g n rs).2.2.2.2.2))), (a.2.2.2.2.2.2.2.2.1), (a.2.2.2.2.2.2.2.2.2.1), (a.2.2.2.2.2.2.2.2.2.2.1), (a.2.2.2.2.2.2.2.2.2.2.2))).2.2).1), (((F_m_reads g n (mv g n rs) ((a.1), (a.2.1), (a.2.2.1), (a.2.2.2.1), (a.2.2.2.2.1), (a.2.2.2.2.2.1), (a.2.2.2.2.2.2.1), (upd (a.2.2.2.2.2.2.2.1) 2 (nI ((mv g n rs).2.2.2.2.2))), (a.2.2.2.2.2.2.2.2.1), (a.2.2.2.2.2.2.2.2.2.1), (a.2.2.2.2.2.2.2.2.2.2.1), (a.2.2.2.2.2.2.2.2.2.2.2))).2.2).2.1), (((F_m_reads g n (mv g n rs) ((a.1), (a.2.1), (a.2.2.1), (a.2.2.2.1), (a.2.2.2.2.1), (a.2.2.2.2.2.1), (a.2.2.2.2.2.2.1), (upd (a.2.2.2.2.2.2.2.1) 2 (nI ((mv g n rs).2.2.2.2.2))), (a.2.2.2.2.2.2.2.2.1), (a.2.2.2.2.2.2.2.2.2.1), (a.2.2.2.2.2.2.2.2.2.2.1), (a.2.2.2.2.2.2.2.2.2.2.2))).2.2).2.2.1), (((F_m_reads g n (mv g n rs) ((a.1), (a.2.1), (a.2.2.1), (a.2.2.2.1), (a.2.2.2.2.1), (a.2.2.2.2.2.1), (a.2.2.2.2.2.2.1), (upd (a.2.2.2.2.2.2.2.1) 2 (nI ((mv g n rs).2.2.2.2.2))), (a.2.2.2.2.2.2.2.2.1), (a.2.2.2.2.2.2.2.2.2.1), (a.2.2.2.2.2.2.2.2.2.2.1), (a.2.2.2.2.2.2.2.2.2.2.2))).2.2).2.2.2.1), (((F_m_reads g n (mv g n rs) ((a.1), (a.2.1), (a.2.2.1), (a.2.2.2.1), (a.2.2.2.2.1), (a.2.2.2.2.2.1), (a.2.2.2.2.2.2.1), (upd (a.2.2.2.2.2.2.2.1) 2 (nI ((mv g n rs).2.2.2.2.2))), (a.2.2.2.2.2.2.2.2.1), (a.2.2.2.2.2.2.2.2.2.1), (a.2.2.2.2.2.2.2.2.2.2.1), (a.2.2.2.2.2.2.2.2.2.2.2))).2.2).2.2.2.2.1), (((F_m_reads g n (mv g n rs) ((a.1), (a.2.1), (a.2.2.1), (a.2.2.2.1), (a.2.2.2.2.1), (a.2.2.2.2.2.1), (a.2.2.2.2.2.2.1), (upd (a.2.2.2.2.2.2.2.1) 2 (nI ((mv g n rs).2.2.2.2.2))), (a.2.2.2.2.2.2.2.2.1), (a.2.2.2.2.2.2.2.2.2.1), (a.2.2.2.2.2.2.2.2.2.2.1), (a.2.2.2.2.2.2.2.2.2.2.2))).2.2).2.2.2.2.2.1), (((F_m_reads g n (mv g n rs) ((a.1), (a.2.1), (a.2.2.1), (a.2.2.2.1), (a.2.2.2.2.1), (a.2.2.2.2.2.1), (a.2.2.2.2.2.2.1), (upd (a.2.2.2.2.2.2.2.1) 2 (nI ((mv g n rs).2.2.2.2.2))), (a.2.2.2.2.2.2.2.2.1), (a.2.2.2.2.2.2.2.2.2.1), (a.2.2.2.2.2.2.2.2.2.2.1), (a.2.2.2.2.2.2.2.2.2.2.2))).2.2).2.2.2.2.2.2.1), (((F_m_reads g n (mv g n rs) ((a.1), (a.2.1), (a.2.2.1), (a.2.2.2.1), (a.2.2.2.2.1), (a.2.2.2.2.2.1), (a.2.2.2.2.2.2.1), (upd (a.2.2.2.2.2.2.2.1) 2 (nI ((mv g n rs).2.2.2.2.2))), (a.2.2.2.2.2.2.2.2.1), (a.2.2.2.2.2.2.2.2.2.1), (a.2.2.2.2.2.2.2.2.2.2.1), (a.2.2.2.2.2.2.2.2.2.2.2))).2.2).2.2.2.2.2.2.2.1), (upd (((F_m_reads g n (mv g n rs) ((a.1), (a.2.1), (a.2.2.1), (a.2.2.2.1), (a.2.2.2.2.1), (a.2.2.2.2.2.1), (a.2.2.2.2.2.2.1), (upd (a.2.2.2.2.2.2.2.1) 2 (nI ((mv g n rs).2.2.2.2.2))), (a.2.2.2.2.2.2.2.2.1), (a.2.2.2.2.2.2.2.2.2.1), (a.2.2.2.2.2.2.2.2.2.2.1), (a.2.2.2.2.2.2.2.2.2.2.2))).2.2).2.2.2.2.2.2.2.2.1) 2 (nI (((F_m_reads g n (mv g n rs) ((a.1), (a.2.1), (a.2.2.1), (a.2.2.2.1), (a.2.2.2.2.1), (a.2.2.2.2.2.1), (a.2.2.2.2.2.2.1), (upd (a.2.2.2.2.2.2.2.1) 2 (nI ((mv g n rs).2.2.2.2.2))), (a.2.2.2.2.2.2.2.2.1), (a.2.2.2.2.2.2.2.2.2.1), (a.2.2.2.2.2.2.2.2.2.2.1), (a.2.2.2.2.2.2.2.2.2.2.2))).2.1).2.2.2.2.2))), (((F_m_reads g n (mv g n rs) ((a.1), (a.2.1), (a.2.2.1), (a.2.2.2.1), (a.2.2.2.2.1), (a.2.2.2.2.2.1), (a.2.2.2.2.2.2.1), (upd (a.2.2.2.2.2.2.2.1) 2 (nI ((mv g n rs).2.2.2.2.2))), (a.2.2.2.2.2.2.2.2.1), (a.2.2.2.2.2.2.2.2.2.1), (a.2.2.2.2.2.2.2.2.2.2.1), (a.2.2.2.2.2.2.2.2.2.2.2))).2.2).2.2.2.2.2.2.2.2.2.1), (((F_m_reads g n (mv g n rs) ((a.1), (a.2.1), (a.2.2.1), (a.2.2.2.1), (a.2.2.2.2.1), (a.2.2.2.2.2.1), (a.2.2.2.2.2.2.1), (upd (a.2.2.2.2.2.2.2.1) 2 (nI ((mv g n rs).2.2.2.2.2))), (a.2.2.2.2.2.2.2.2.1), (a.2.2.2.2.2.2.2.2.2.1), (a.2.2.2.2.2.2.2.2.2.2.1), (a.2.2.2.2.2.2.2.2.2.2.2))).2.2).2.2.2.2.2.2.2.2.2.2.1), (((F_m_reads g n (mv g n rs) ((a.1), (a.2.1), (a.2.2.1), (a.2.2.2.1), (a.2.2.2.2.1), (a.2.2.2.2.2.1), (a.2.2.2.2.2.2.1), (upd (a.2.2.2.2.2.2.2.1) 2 (nI ((mv g n rs).2.2.2.2.2))), (a.2.2.2.2.2.2.2.2.1), (a.2.2.2.2.2.2.2.2.2.1), (a.2.2.2.2.2.2.2.2.2.2.1), (a.2.2.2.2.2.2.2.2.2.2.2))).2.2).2.2.2.2.2.2.2.2.2.2.2)))) else (0, (F_m_fails g n rs 3), a)
set_option maxHeartbeats 4000000 in
set_option maxRecDepth 100000 in
theorem c_m_readsLaw0 (γ : kΓ) (l : Launch) (z : Nat) (z2 : Nat) (z10 : Nat) (z11 : Nat) (z12 : Nat) (z13 : Nat) (z14 : Nat) (z15 : Nat) (z16 : Nat) (z17 : Nat) (z18 : Nat) (z19 : Nat) (z22 : Nat) (z23 : Nat) (z24 : Nat) (z25 : Nat) (z26 : Nat) (z27 : Nat) (z28 : Nat) (z29 : Nat) (z30 : Nat) (z31 : Nat) (z32 : Nat) (z33 : Nat) (z36 : Nat) (z37 : Nat) (z38 : Nat) (z39 : Nat) (z40 : Nat) (z41 : Nat) (z42 : Nat) (z43 : Nat) (z44 : Nat) (z45 : Nat) (z46 : Nat) (z47 : Nat) (z48 : Nat) (z55 : Nat) (z56 : Nat) (z59 : Nat) (z60 : Nat) (z61 : Nat) (n0 : Int32) (n1 : Int32) (n49 : Int32) (n50 : Int32) (n51 : Int32) (n52 : Int32) (n53 : Int32) (n54 : Int32) (n57 : Int32) (n58 : Int32) (n62 : Int32) (n63 : Int64) (n : Nat) (g : Nat → Int32) (rs : mRS) (a : mAS) (hn : n ≤ 1000) (hcd : mC g n rs) : kM γ l yX12_readsLaw cX12_readsLaw 2 ((some .boolean)) ({ frames := 3, cells := 0, slots := 0, locals := 86 } : Room) [.ref z, .int 0] ((mWz γ z z2 z10 z11 z12 z13 z14 z15 z16 z17 z18 z19 z22 z23 z24 z25 z26 z27 z28 z29 z30 z31 z32 z33 z36 z37 z38 z39 z40 z41 z42 z43 z44 z45 z46 z47 z48 z55 z56 z59 z60 z61 n0 n1 n49 n50 n51 n52 n53 n54 n57 n58 n62 n63 g n rs) ++ (mWa γ z10 z11 z12 z13 z14 z15 z16 z17 z18 z19 z22 z23 a)) (fun r w1 => r = some (.int ((F_m_readsLaw0 g n rs a).1)) ∧ w1 = ((mWz γ z z2 z10 z11 z12 z13 z14 z15 z16 z17 z18 z19 z22 z23 z24 z25 z26 z27 z28 z29 z30 z31 z32 z33 z36 z37 z38 z39 z40 z41 z42 z43 z44 z45 z46 z47 z48 z55 z56 z59 z60 z61 n0 n1 n49 n50 n51 n52 n53 n54 n57 n58 n62 n63 g n ((F_m_readsLaw0 g n rs a).2.1)) ++ (mWa γ z10 z11 z12 z13 z14 z15 z16 z17 z18 z19 z22 z23 ((F_m_readsLaw0 g n rs a).2.2)))) := by
  refine k_ofW (by decide) (Nat.le_of_ble_eq_true rfl) ?_
  intro p9 e s m below meth c A ls hC hr hlocks hname hw hl
  have hx := hC.1
  have hb := hC.2.1
  have hl : lv_has ls 2 [(0, .ref z), (1, .int 0)] := hl
  refine lv_aload_n hx hb dX12_readsLaw_0 rfl (lv_at hl 0 rfl) ?_
  refine fg_RX12_38 hC hw 0 rfl rfl dX12_readsLaw_1 ?_
  refine lv_iconst (v := 2) hx hb dX12_readsLaw_4 (by decide) ?_
  refine lv_iload_n hx hb dX12_readsLaw_5 rfl (lv_at hl 1 rfl) ?_
  refine lv_iadd hx hb dX12_readsLaw_6 ?_
  refine lv_topi (fun x_325 ex_325 => ?_)
  obtain rfl : x_325 = 2 := ex_325.trans (by decide)
  refine k_iald hC hw 10 rfl (k_in0 (by decide)) dX12_readsLaw_7 ?_
  refine lv_topi (fun x_326 ex_326 => ?_)
  obtain rfl : x_326 = ((a.2.2.2.2.2.2.2.2.1) 2) := ex_326
  refine lv_aload_n hx hb dX12_readsLaw_8 rfl (lv_at hl 0 rfl) ?_
  refine fg_RX12_35 hC hw 0 rfl rfl dX12_readsLaw_9 ?_
  refine lv_iconst (v := 2) hx hb dX12_readsLaw_12 (by decide) ?_
  refine lv_iload_n hx hb dX12_readsLaw_13 rfl (lv_at hl 1 rfl) ?_
  refine lv_iadd hx hb dX12_readsLaw_14 ?_
  refine lv_topi (fun x_327 ex_327 => ?_)
  obtain rfl : x_327 = 2 := ex_327.trans (by decide)
  refine k_iald hC hw 9 rfl (k_in0 (by decide)) dX12_readsLaw_15 ?_
  refine lv_topi (fun x_328 ex_328 => ?_)
  obtain rfl : x_328 = ((a.2.2.2.2.2.2.2.1) 2) := ex_328
  refine lv_icmp_le (tgt := 25) hx hb dX12_readsLaw_16 (by decide) (fun c_329 => ?_) (fun c_329 => ?_)
  · refine lv_aload_n hx hb dX12_readsLaw_25 rfl (lv_at hl 0 rfl) ?_
    refine k_V (wr := (mWa γ z10 z11 z12 z13 z14 z15 z16 z17 z18 z19 z22 z23 a)) 0 gw_1402 gw_1404 gp_54 gw_15 gw_1405 hd_X12_nextToken hC hw (c_mv γ l z z2 z10 z11 z12 z13 z14 z15 z16 z17 z18 z19 z22 z23 z24 z25 z26 z27 z28 z29 z30 z31 z32 z33 z36 z37 z38 z39 z40 z41 z42 z43 z44 z45 z46 z47 z48 z55 z56 z59 z60 z61 n0 n1 n49 n50 n51 n52 n53 n54 n57 n58 n62 n63 n g rs hn) ⟨by decide, by decide⟩ ⟨by decide, by decide⟩ hl.1 rfl 0 rfl rfl rfl (Nat.le_of_ble_eq_true rfl) [0, 1] [2, 3, 4, 5, 6, 7, 8, 9, 10, 11, 12, 13] rfl rfl rfl rfl (by decide) dX12_readsLaw_26 (fun r w1 H locs hq hw => ?_)
    obtain ⟨rfl, rfl⟩ := hq
    have hw : kW γ A ((mWa γ z10 z11 z12 z13 z14 z15 z16 z17 z18 z19 z22 z23 a) ++ (mWz γ z z2 z10 z11 z12 z13 z14 z15 z16 z17 z18 z19 z22 z23 z24 z25 z26 z27 z28 z29 z30 z31 z32 z33 z36 z37 z38 z39 z40 z41 z42 z43 z44 z45 z46 z47 z48 z55 z56 z59 z60 z61 n0 n1 n49 n50 n51 n52 n53 n54 n57 n58 n62 n63 g n (mv g n rs))) s H locs := hw
    refine W.eq (g2 := F0 m 29 ls []) rfl ?_
    refine lv_aload_n hx hb dX12_readsLaw_29 rfl (lv_at hl 0 rfl) ?_
    refine fg_RX12_35 hC hw 12 rfl rfl dX12_readsLaw_30 ?_
    refine lv_iconst (v := 2) hx hb dX12_readsLaw_33 (by decide) ?_
    refine lv_iload_n hx hb dX12_readsLaw_34 rfl (lv_at hl 1 rfl) ?_
    refine lv_iadd hx hb dX12_readsLaw_35 ?_
    refine lv_topi (fun x_330 ex_330 => ?_)
    obtain rfl : x_330 = 2 := ex_330.trans (by decide)
    refine lv_aload_n hx hb dX12_readsLaw_36 rfl (lv_at hl 0 rfl) ?_
    refine fg_RX12_181 hC hw 12 rfl rfl dX12_readsLaw_37 ?_
    refine k_iast hC hw 7 rfl (k_in0 (by decide)) dX12_readsLaw_40 (fun H locs hw => ?_)
    have hw : kW γ A ((mWa γ z10 z11 z12 z13 z14 z15 z16 z17 z18 z19 z22 z23 ((a.1), (a.2.1), (a.2.2.1), (a.2.2.2.1), (a.2.2.2.2.1), (a.2.2.2.2.2.1), (a.2.2.2.2.2.2.1), (upd (a.2.2.2.2.2.2.2.1) 2 (nI ((mv g n rs).2.2.2.2.2))), (a.2.2.2.2.2.2.2.2.1), (a.2.2.2.2.2.2.2.2.2.1), (a.2.2.2.2.2.2.2.2.2.2.1), (a.2.2.2.2.2.2.2.2.2.2.2))) ++ (mWz γ z z2 z10 z11 z12 z13 z14 z15 z16 z17 z18 z19 z22 z23 z24 z25 z26 z27 z28 z29 z30 z31 z32 z33 z36 z37 z38 z39 z40 z41 z42 z43 z44 z45 z46 z47 z48 z55 z56 z59 z60 z61 n0 n1 n49 n50 n51 n52 n53 n54 n57 n58 n62 n63 g n (mv g n rs))) s H locs := hw
    refine lv_aload_n hx hb dX12_readsLaw_41 rfl (lv_at hl 0 rfl) ?_
    refine k_V (wr := []) 0 gw_1499 gw_1501 gp_72 gw_15 gw_1502 hd_X12_reads hC hw (c_m_reads γ l z z2 z10 z11 z12 z13 z14 z15 z16 z17 z18 z19 z22 z23 z24 z25 z26 z27 z28 z29 z30 z31 z32 z33 z36 z37 z38 z39 z40 z41 z42 z43 z44 z45 z46 z47 z48 z55 z56 z59 z60 z61 n0 n1 n49 n50 n51 n52 n53 n54 n57 n58 n62 n63 n g (mv g n rs) ((a.1), (a.2.1), (a.2.2.1), (a.2.2.2.1), (a.2.2.2.2.1), (a.2.2.2.2.2.1), (a.2.2.2.2.2.2.1), (upd (a.2.2.2.2.2.2.2.1) 2 (nI ((mv g n rs).2.2.2.2.2))), (a.2.2.2.2.2.2.2.2.1), (a.2.2.2.2.2.2.2.2.2.1), (a.2.2.2.2.2.2.2.2.2.2.1), (a.2.2.2.2.2.2.2.2.2.2.2)) hn (mC_mv hcd)) ⟨by decide, by decide⟩ ⟨by decide, by decide⟩ hl.1 rfl 12 rfl rfl rfl (Nat.le_of_ble_eq_true rfl) [12, 13, 0, 1, 2, 3, 4, 5, 6, 7, 8, 9, 10, 11] [] rfl rfl rfl rfl (by decide) dX12_readsLaw_42 (fun r w1 H locs hq hw => ?_)
    obtain ⟨rfl, rfl⟩ := hq
    have hw : kW γ A ((mWz γ z z2 z10 z11 z12 z13 z14 z15 z16 z17 z18 z19 z22 z23 z24 z25 z26 z27 z28 z29 z30 z31 z32 z33 z36 z37 z38 z39 z40 z41 z42 z43 z44 z45 z46 z47 z48 z55 z56 z59 z60 z61 n0 n1 n49 n50 n51 n52 n53 n54 n57 n58 n62 n63 g n ((F_m_reads g n (mv g n rs) ((a.1), (a.2.1), (a.2.2.1), (a.2.2.2.1), (a.2.2.2.2.1), (a.2.2.2.2.2.1), (a.2.2.2.2.2.2.1), (upd (a.2.2.2.2.2.2.2.1) 2 (nI ((mv g n rs).2.2.2.2.2))), (a.2.2.2.2.2.2.2.2.1), (a.2.2.2.2.2.2.2.2.2.1), (a.2.2.2.2.2.2.2.2.2.2.1), (a.2.2.2.2.2.2.2.2.2.2.2))).2.1)) ++ (mWa γ z10 z11 z12 z13 z14 z15 z16 z17 z18 z19 z22 z23 ((F_m_reads g n (mv g n rs) ((a.1), (a.2.1), (a.2.2.1), (a.2.2.2.1), (a.2.2.2.2.1), (a.2.2.2.2.2.1), (a.2.2.2.2.2.2.1), (upd (a.2.2.2.2.2.2.2.1) 2 (nI ((mv g n rs).2.2.2.2.2))), (a.2.2.2.2.2.2.2.2.1), (a.2.2.2.2.2.2.2.2.2.1), (a.2.2.2.2.2.2.2.2.2.2.1), (a.2.2.2.2.2.2.2.2.2.2.2))).2.2))) s H locs := hw
    refine W.eq (g2 := F0 m 45 ls [.int ((F_m_reads g n (mv g n rs) ((a.1), (a.2.1), (a.2.2.1), (a.2.2.2.1), (a.2.2.2.2.1), (a.2.2.2.2.2.1), (a.2.2.2.2.2.2.1), (upd (a.2.2.2.2.2.2.2.1) 2 (nI ((mv g n rs).2.2.2.2.2))), (a.2.2.2.2.2.2.2.2.1), (a.2.2.2.2.2.2.2.2.2.1), (a.2.2.2.2.2.2.2.2.2.2.1), (a.2.2.2.2.2.2.2.2.2.2.2))).1)]) rfl ?_
    refine lv_if_ne (tgt := 50) hx hb dX12_readsLaw_45 (by decide) (fun c_331 => ?_) (fun c_331 => ?_)
    · refine lv_aload_n hx hb dX12_readsLaw_50 rfl (lv_at hl 0 rfl) ?_
      refine fg_RX12_38 hC hw 0 rfl rfl dX12_readsLaw_51 ?_
      refine lv_iconst (v := 2) hx hb dX12_readsLaw_54 (by decide) ?_
      refine lv_iload_n hx hb dX12_readsLaw_55 rfl (lv_at hl 1 rfl) ?_
      refine lv_iadd hx hb dX12_readsLaw_56 ?_
      refine lv_topi (fun x_332 ex_332 => ?_)
      obtain rfl : x_332 = 2 := ex_332.trans (by decide)
      refine lv_aload_n hx hb dX12_readsLaw_57 rfl (lv_at hl 0 rfl) ?_
      refine fg_RX12_181 hC hw 0 rfl rfl dX12_readsLaw_58 ?_
      refine k_iast hC hw 10 rfl (k_in0 (by decide)) dX12_readsLaw_61 (fun H locs hw => ?_)
      have hw : kW γ A ((mWz γ z z2 z10 z11 z12 z13 z14 z15 z16 z17 z18 z19 z22 z23 z24 z25 z26 z27 z28 z29 z30 z31 z32 z33 z36 z37 z38 z39 z40 z41 z42 z43 z44 z45 z46 z47 z48 z55 z56 z59 z60 z61 n0 n1 n49 n50 n51 n52 n53 n54 n57 n58 n62 n63 g n ((F_m_reads g n (mv g n rs) ((a.1), (a.2.1), (a.2.2.1), (a.2.2.2.1), (a.2.2.2.2.1), (a.2.2.2.2.2.1), (a.2.2.2.2.2.2.1), (upd (a.2.2.2.2.2.2.2.1) 2 (nI ((mv g n rs).2.2.2.2.2))), (a.2.2.2.2.2.2.2.2.1), (a.2.2.2.2.2.2.2.2.2.1), (a.2.2.2.2.2.2.2.2.2.2.1), (a.2.2.2.2.2.2.2.2.2.2.2))).2.1)) ++ (mWa γ z10 z11 z12 z13 z14 z15 z16 z17 z18 z19 z22 z23 ((((F_m_reads g n (mv g n rs) ((a.1), (a.2.1), (a.2.2.1), (a.2.2.2.1), (a.2.2.2.2.1), (a.2.2.2.2.2.1), (a.2.2.2.2.2.2.1), (upd (a.2.2.2.2.2.2.2.1) 2 (nI ((mv g n rs).2.2.2.2.2))), (a.2.2.2.2.2.2.2.2.1), (a.2.2.2.2.2.2.2.2.2.1), (a.2.2.2.2.2.2.2.2.2.2.1), (a.2.2.2.2.2.2.2.2.2.2.2))).2.2).1), (((F_m_reads g n (mv g n rs) ((a.1), (a.2.1), (a.2.2.1), (a.2.2.2.1), (a.2.2.2.2.1), (a.2.2.2.2.2.1), (a.2.2.2.2.2.2.1), (upd (a.2.2.2.2.2.2.2.1) 2 (nI ((mv g n rs).2.2.2.2.2))), (a.2.2.2.2.2.2.2.2.1), (a.2.2.2.2.2.2.2.2.2.1), (a.2.2.2.2.2.2.2.2.2.2.1), (a.2.2.2.2.2.2.2.2.2.2.2))).2.2).2.1), (((F_m_reads g n (mv g n rs) ((a.1), (a.2.1), (a.2.2.1), (a.2.2.2.1), (a.2.2.2.2.1), (a.2.2.2.2.2.1), (a.2.2.2.2.2.2.1), (upd (a.2.2.2.2.2.2.2.1) 2 (nI ((mv g n rs).2.2.2.2.2))), (a.2.2.2.2.2.2.2.2.1), (a.2.2.2.2.2.2.2.2.2.1), (a.2.2.2.2.2.2.2.2.2.2.1), (a.2.2.2.2.2.2.2.2.2.2.2))).2.2).2.2.1), (((F_m_reads g n (mv g n rs) ((a.1), (a.2.1), (a.2.2.1), (a.2.2.2.1), (a.2.2.2.2.1), (a.2.2.2.2.2.1), (a.2.2.2.2.2.2.1), (upd (a.2.2.2.2.2.2.2.1) 2 (nI ((mv g n rs).2.2.2.2.2))), (a.2.2.2.2.2.2.2.2.1), (a.2.2.2.2.2.2.2.2.2.1), (a.2.2.2.2.2.2.2.2.2.2.1), (a.2.2.2.2.2.2.2.2.2.2.2))).2.2).2.2.2.1), (((F_m_reads g n (mv g n rs) ((a.1), (a.2.1), (a.2.2.1), (a.2.2.2.1), (a.2.2.2.2.1), (a.2.2.2.2.2.1), (a.2.2.2.2.2.2.1), (upd (a.2.2.2.2.2.2.2.1) 2 (nI ((mv g n rs).2.2.2.2.2))), (a.2.2.2.2.2.2.2.2.1), (a.2.2.2.2.2.2.2.2.2.1), (a.2.2.2.2.2.2.2.2.2.2.1), (a.2.2.2.2.2.2.2.2.2.2.2))).2.2).2.2.2.2.1), (((F_m_reads g n (mv g n rs) ((a.1), (a.2.1), (a.2.2.1), (a.2.2.2.1), (a.2.2.2.2.1), (a.2.2.2.2.2.1), (a.2.2.2.2.2.2.1), (upd (a.2.2.2.2.2.2.2.1) 2 (nI ((mv g n rs).2.2.2.2.2))), (a.2.2.2.2.2.2.2.2.1), (a.2.2.2.2.2.2.2.2.2.1), (a.2.2.2.2.2.2.2.2.2.2.1), (a.2.2.2.2.2.2.2.2.2.2.2))).2.2).2.2.2.2.2.1), (((F_m_reads g n (mv g n rs) ((a.1), (a.2.1), (a.2.2.1), (a.2.2.2.1), (a.2.2.2.2.1), (a.2.2.2.2.2.1), (a.2.2.2.2.2.2.1), (upd (a.2.2.2.2.2.2.2.1) 2 (nI ((mv g n rs).2.2.2.2.2))), (a.2.2.2.2.2.2.2.2.1), (a.2.2.2.2.2.2.2.2.2.1), (a.2.2.2.2.2.2.2.2.2.2.1), (a.2.2.2.2.2.2.2.2.2.2.2))).2.2).2.2.2.2.2.2.1), (((F_m_reads g n (mv g n rs) ((a.1), (a.2.1), (a.2.2.1), (a.2.2.2.1), (a.2.2.2.2.1), (a.2.2.2.2.2.1), (a.2.2.2.2.2.2.1), (upd (a.2.2.2.2.2.2.2.1) 2 (nI ((mv g n rs).2.2.2.2.2))), (a.2.2.2.2.2.2.2.2.1), (a.2.2.2.2.2.2.2.2.2.1), (a.2.2.2.2.2.2.2.2.2.2.1), (a.2.2.2.2.2.2.2.2.2.2.2))).2.2).2.2.2.2.2.2.2.1), (upd (((F_m_reads g n (mv g n rs) ((a.1), (a.2.1), (a.2.2.1), (a.2.2.2.1), (a.2.2.2.2.1), (a.2.2.2.2.2.1), (a.2.2.2.2.2.2.1), (upd (a.2.2.2.2.2.2.2.1) 2 (nI ((mv g n rs).2.2.2.2.2))), (a.2.2.2.2.2.2.2.2.1), (a.2.2.2.2.2.2.2.2.2.1), (a.2.2.2.2.2.2.2.2.2.2.1), (a.2.2.2.2.2.2.2.2.2.2.2))).2.2).2.2.2.2.2.2.2.2.1) 2 (nI (((F_m_reads g n (mv g n rs) ((a.1), (a.2.1), (a.2.2.1), (a.2.2.2.1), (a.2.2.2.2.1), (a.2.2.2.2.2.1), (a.2.2.2.2.2.2.1), (upd (a.2.2.2.2.2.2.2.1) 2 (nI ((mv g n rs).2.2.2.2.2))), (a.2.2.2.2.2.2.2.2.1), (a.2.2.2.2.2.2.2.2.2.1), (a.2.2.2.2.2.2.2.2.2.2.1), (a.2.2.2.2.2.2.2.2.2.2.2))).2.1).2.2.2.2.2))), (((F_m_reads g n (mv g n rs) ((a.1), (a.2.1), (a.2.2.1), (a.2.2.2.1), (a.2.2.2.2.1), (a.2.2.2.2.2.1), (a.2.2.2.2.2.2.1), (upd (a.2.2.2.2.2.2.2.1) 2 (nI ((mv g n rs).2.2.2.2.2))), (a.2.2.2.2.2.2.2.2.1), (a.2.2.2.2.2.2.2.2.2.1), (a.2.2.2.2.2.2.2.2.2.2.1), (a.2.2.2.2.2.2.2.2.2.2.2))).2.2).2.2.2.2.2.2.2.2.2.1), (((F_m_reads g n (mv g n rs) ((a.1), (a.2.1), (a.2.2.1), (a.2.2.2.1), (a.2.2.2.2.1), (a.2.2.2.2.2.1), (a.2.2.2.2.2.2.1), (upd (a.2.2.2.2.2.2.2.1) 2 (nI ((mv g n rs).2.2.2.2.2))), (a.2.2.2.2.2.2.2.2.1), (a.2.2.2.2.2.2.2.2.2.1), (a.2.2.2.2.2.2.2.2.2.2.1), (a.2.2.2.2.2.2.2.2.2.2.2))).2.2).2.2.2.2.2.2.2.2.2.2.1), (((F_m_reads g n (mv g n rs) ((a.1), (a.2.1), (a.2.2.1), (a.2.2.2.1), (a.2.2.2.2.1), (a.2.2.2.2.2.1), (a.2.2.2.2.2.2.1), (upd (a.2.2.2.2.2.2.2.1) 2 (nI ((mv g n rs).2.2.2.2.2))), (a.2.2.2.2.2.2.2.2.1), (a.2.2.2.2.2.2.2.2.2.1), (a.2.2.2.2.2.2.2.2.2.2.1), (a.2.2.2.2.2.2.2.2.2.2.2))).2.2).2.2.2.2.2.2.2.2.2.2.2)))) s H locs := hw
      refine lv_iconst (v := 1) hx hb dX12_readsLaw_62 (by decide) ?_
      have hE : (F_m_readsLaw0 g n rs a) = (1, ((F_m_reads g n (mv g n rs) ((a.1), (a.2.1), (a.2.2.1), (a.2.2.2.1), (a.2.2.2.2.1), (a.2.2.2.2.2.1), (a.2.2.2.2.2.2.1), (upd (a.2.2.2.2.2.2.2.1) 2 (nI ((mv g n rs).2.2.2.2.2))), (a.2.2.2.2.2.2.2.2.1), (a.2.2.2.2.2.2.2.2.2.1), (a.2.2.2.2.2.2.2.2.2.2.1), (a.2.2.2.2.2.2.2.2.2.2.2))).2.1), ((((F_m_reads g n (mv g n rs) ((a.1), (a.2.1), (a.2.2.1), (a.2.2.2.1), (a.2.2.2.2.1), (a.2.2.2.2.2.1), (a.2.2.2.2.2.2.1), (upd (a.2.2.2.2.2.2.2.1) 2 (nI ((mv g n rs).2.2.2.2.2))), (a.2.2.2.2.2.2.2.2.1), (a.2.2.2.2.2.2.2.2.2.1), (a.2.2.2.2.2.2.2.2.2.2.1), (a.2.2.2.2.2.2.2.2.2.2.2))).2.2).1), (((F_m_reads g n (mv g n rs) ((a.1), (a.2.1), (a.2.2.1), (a.2.2.2.1), (a.2.2.2.2.1), (a.2.2.2.2.2.1), (a.2.2.2.2.2.2.1), (upd (a.2.2.2.2.2.2.2.1) 2 (nI ((mv g n rs).2.2.2.2.2))), (a.2.2.2.2.2.2.2.2.1), (a.2.2.2.2.2.2.2.2.2.1), (a.2.2.2.2.2.2.2.2.2.2.1), (a.2.2.2.2.2.2.2.2.2.2.2))).2.2).2.1), (((F_m_reads g n (mv g n rs) ((a.1), (a.2.1), (a.2.2.1), (a.2.2.2.1), (a.2.2.2.2.1), (a.2.2.2.2.2.1), (a.2.2.2.2.2.2.1), (upd (a.2.2.2.2.2.2.2.1) 2 (nI ((mv g n rs).2.2.2.2.2))), (a.2.2.2.2.2.2.2.2.1), (a.2.2.2.2.2.2.2.2.2.1), (a.2.2.2.2.2.2.2.2.2.2.1), (a.2.2.2.2.2.2.2.2.2.2.2))).2.2).2.2.1), (((F_m_reads g n (mv g n rs) ((a.1), (a.2.1), (a.2.2.1), (a.2.2.2.1), (a.2.2.2.2.1), (a.2.2.2.2.2.1), (a.2.2.2.2.2.2.1), (upd (a.2.2.2.2.2.2.2.1) 2 (nI ((mv g n rs).2.2.2.2.2))), (a.2.2.2.2.2.2.2.2.1), (a.2.2.2.2.2.2.2.2.2.1), (a.2.2.2.2.2.2.2.2.2.2.1), (a.2.2.2.2.2.2.2.2.2.2.2))).2.2).2.2.2.1), (((F_m_reads g n (mv g n rs) ((a.1), (a.2.1), (a.2.2.1), (a.2.2.2.1), (a.2.2.2.2.1), (a.2.2.2.2.2.1), (a.2.2.2.2.2.2.1), (upd (a.2.2.2.2.2.2.2.1) 2 (nI ((mv g n rs).2.2.2.2.2))), (a.2.2.2.2.2.2.2.2.1), (a.2.2.2.2.2.2.2.2.2.1), (a.2.2.2.2.2.2.2.2.2.2.1), (a.2.2.2.2.2.2.2.2.2.2.2))).2.2).2.2.2.2.1), (((F_m_reads g n (mv g n rs) ((a.1), (a.2.1), (a.2.2.1), (a.2.2.2.1), (a.2.2.2.2.1), (a.2.2.2.2.2.1), (a.2.2.2.2.2.2.1), (upd (a.2.2.2.2.2.2.2.1) 2 (nI ((mv g n rs).2.2.2.2.2))), (a.2.2.2.2.2.2.2.2.1), (a.2.2.2.2.2.2.2.2.2.1), (a.2.2.2.2.2.2.2.2.2.2.1), (a.2.2.2.2.2.2.2.2.2.2.2))).2.2).2.2.2.2.2.1), (((F_m_reads g n (mv g n rs) ((a.1), (a.2.1), (a.2.2.1), (a.2.2.2.1), (a.2.2.2.2.1), (a.2.2.2.2.2.1), (a.2.2.2.2.2.2.1), (upd (a.2.2.2.2.2.2.2.1) 2 (nI ((mv g n rs).2.2.2.2.2))), (a.2.2.2.2.2.2.2.2.1), (a.2.2.2.2.2.2.2.2.2.1), (a.2.2.2.2.2.2.2.2.2.2.1), (a.2.2.2.2.2.2.2.2.2.2.2))).2.2).2.2.2.2.2.2.1), (((F_m_reads g n (mv g n rs) ((a.1), (a.2.1), (a.2.2.1), (a.2.2.2.1), (a.2.2.2.2.1), (a.2.2.2.2.2.1), (a.2.2.2.2.2.2.1), (upd (a.2.2.2.2.2.2.2.1) 2 (nI ((mv g n rs).2.2.2.2.2))), (a.2.2.2.2.2.2.2.2.1), (a.2.2.2.2.2.2.2.2.2.1), (a.2.2.2.2.2.2.2.2.2.2.1), (a.2.2.2.2.2.2.2.2.2.2.2))).2.2).2.2.2.2.2.2.2.1), (upd (((F_m_reads g n (mv g n rs) ((a.1), (a.2.1), (a.2.2.1), (a.2.2.2.1), (a.2.2.2.2.1), (a.2.2.2.2.2.1), (a.2.2.2.2.2.2.1), (upd (a.2.2.2.2.2.2.2.1) 2 (nI ((mv g n rs).2.2.2.2.2))), (a.2.2.2.2.2.2.2.2.1), (a.2.2.2.2.2.2.2.2.2.1), (a.2.2.2.2.2.2.2.2.2.2.1), (a.2.2.2.2.2.2.2.2.2.2.2))).2.2).2.2.2.2.2.2.2.2.1) 2 (nI (((F_m_reads g n (mv g n rs) ((a.1), (a.2.1), (a.2.2.1), (a.2.2.2.1), (a.2.2.2.2.1), (a.2.2.2.2.2.1), (a.2.2.2.2.2.2.1), (upd (a.2.2.2.2.2.2.2.1) 2 (nI ((mv g n rs).2.2.2.2.2))), (a.2.2.2.2.2.2.2.2.1), (a.2.2.2.2.2.2.2.2.2.1), (a.2.2.2.2.2.2.2.2.2.2.1), (a.2.2.2.2.2.2.2.2.2.2.2))).2.1).2.2.2.2.2))), (((F_m_reads g n (mv g n rs) ((a.1), (a.2.1), (a.2.2.1), (a.2.2.2.1), (a.2.2.2.2.1), (a.2.2.2.2.2.1), (a.2.2.2.2.2.2.1), (upd (a.2.2.2.2.2.2.2.1) 2 (nI ((mv g n rs).2.2.2.2.2))), (a.2.2.2.2.2.2.2.2.1), (a.2.2.2.2.2.2.2.2.2.1), (a.2.2.2.2.2.2.2.2.2.2.1), (a.2.2.2.2.2.2.2.2.2.2.2))).2.2).2.2.2.2.2.2.2.2.2.1), (((F_m_reads g n (mv g n rs) ((a.1), (a.2.1), (a.2.2.1), (a.2.2.2.1), (a.2.2.2.2.1), (a.2.2.2.2.2.1), (a.2.2.2.2.2.2.1), (upd (a.2.2.2.2.2.2.2.1) 2 (nI ((mv g n rs).2.2.2.2.2))), (a.2.2.2.2.2.2.2.2.1), (a.2.2.2.2.2.2.2.2.2.1), (a.2.2.2.2.2.2.2.2.2.2.1), (a.2.2.2.2.2.2.2.2.2.2.2))).2.2).2.2.2.2.2.2.2.2.2.2.1), (((F_m_reads g n (mv g n rs) ((a.1), (a.2.1), (a.2.2.1), (a.2.2.2.1), (a.2.2.2.2.1), (a.2.2.2.2.2.1), (a.2.2.2.2.2.2.1), (upd (a.2.2.2.2.2.2.2.1) 2 (nI ((mv g n rs).2.2.2.2.2))), (a.2.2.2.2.2.2.2.2.1), (a.2.2.2.2.2.2.2.2.2.1), (a.2.2.2.2.2.2.2.2.2.2.1), (a.2.2.2.2.2.2.2.2.2.2.2))).2.2).2.2.2.2.2.2.2.2.2.2.2))) := by unfold F_m_readsLaw0; rw [if_pos c_329, if_neg c_331]
      have hw : kW γ A ((mWz γ z z2 z10 z11 z12 z13 z14 z15 z16 z17 z18 z19 z22 z23 z24 z25 z26 z27 z28 z29 z30 z31 z32 z33 z36 z37 z38 z39 z40 z41 z42 z43 z44 z45 z46 z47 z48 z55 z56 z59 z60 z61 n0 n1 n49 n50 n51 n52 n53 n54 n57 n58 n62 n63 g n ((F_m_readsLaw0 g n rs a).2.1)) ++ (mWa γ z10 z11 z12 z13 z14 z15 z16 z17 z18 z19 z22 z23 ((F_m_readsLaw0 g n rs a).2.2))) s H locs := by first | (rw [hE]; exact hw) | exact hw
      exact k_zret hC hr hlocks rfl hw [0, 1, 2, 3, 4, 5, 6, 7, 8, 9, 10, 11, 12, 13] rfl rfl ⟨by rw [hE], rfl⟩ (by decide) (by decide) dX12_readsLaw_63
    · refine lv_iconst (v := 0) hx hb dX12_readsLaw_48 (by decide) ?_
      have hE : (F_m_readsLaw0 g n rs a) = (0, ((F_m_reads g n (mv g n rs) ((a.1), (a.2.1), (a.2.2.1), (a.2.2.2.1), (a.2.2.2.2.1), (a.2.2.2.2.2.1), (a.2.2.2.2.2.2.1), (upd (a.2.2.2.2.2.2.2.1) 2 (nI ((mv g n rs).2.2.2.2.2))), (a.2.2.2.2.2.2.2.2.1), (a.2.2.2.2.2.2.2.2.2.1), (a.2.2.2.2.2.2.2.2.2.2.1), (a.2.2.2.2.2.2.2.2.2.2.2))).2.1), ((F_m_reads g n (mv g n rs) ((a.1), (a.2.1), (a.2.2.1), (a.2.2.2.1), (a.2.2.2.2.1), (a.2.2.2.2.2.1), (a.2.2.2.2.2.2.1), (upd (a.2.2.2.2.2.2.2.1) 2 (nI ((mv g n rs).2.2.2.2.2))), (a.2.2.2.2.2.2.2.2.1), (a.2.2.2.2.2.2.2.2.2.1), (a.2.2.2.2.2.2.2.2.2.2.1), (a.2.2.2.2.2.2.2.2.2.2.2))).2.2)) := by unfold F_m_readsLaw0; rw [if_pos c_329, if_pos c_331]
      have hw : kW γ A ((mWz γ z z2 z10 z11 z12 z13 z14 z15 z16 z17 z18 z19 z22 z23 z24 z25 z26 z27 z28 z29 z30 z31 z32 z33 z36 z37 z38 z39 z40 z41 z42 z43 z44 z45 z46 z47 z48 z55 z56 z59 z60 z61 n0 n1 n49 n50 n51 n52 n53 n54 n57 n58 n62 n63 g n ((F_m_readsLaw0 g n rs a).2.1)) ++ (mWa γ z10 z11 z12 z13 z14 z15 z16 z17 z18 z19 z22 z23 ((F_m_readsLaw0 g n rs a).2.2))) s H locs := by first | (rw [hE]; exact hw) | exact hw
      exact k_zret hC hr hlocks rfl hw [0, 1, 2, 3, 4, 5, 6, 7, 8, 9, 10, 11, 12, 13] rfl rfl ⟨by rw [hE], rfl⟩ (by decide) (by decide) dX12_readsLaw_49
  · refine lv_aload_n hx hb dX12_readsLaw_19 rfl (lv_at hl 0 rfl) ?_
    refine lv_iconst (v := 3) hx hb dX12_readsLaw_20 (by decide) ?_
    refine k_V (wr := (mWa γ z10 z11 z12 z13 z14 z15 z16 z17 z18 z19 z22 z23 a)) 1 gw_1421 gw_1423 gp_58 gw_15 gw_1424 hd_X12_fails hC hw (c_m_fails γ l z z2 z10 z11 z12 z13 z14 z15 z16 z17 z18 z19 z22 z23 z24 z25 z26 z27 z28 z29 z30 z31 z32 z33 z36 z37 z38 z39 z40 z41 z42 z43 z44 z45 z46 z47 z48 z55 z56 z59 z60 z61 n0 n1 n49 n50 n51 n52 n53 n54 n57 n58 n62 n63 n g rs 3 hn) ⟨by decide, by decide⟩ ⟨by decide, by decide⟩ hl.1 rfl 0 rfl rfl rfl (Nat.le_of_ble_eq_true rfl) [0, 1] [2, 3, 4, 5, 6, 7, 8, 9, 10, 11, 12, 13] rfl rfl rfl rfl (by decide) dX12_readsLaw_21 (fun r w1 H locs hq hw => ?_)
    obtain ⟨rfl, rfl⟩ := hq
    have hw : kW γ A ((mWa γ z10 z11 z12 z13 z14 z15 z16 z17 z18 z19 z22 z23 a) ++ (mWz γ z z2 z10 z11 z12 z13 z14 z15 z16 z17 z18 z19 z22 z23 z24 z25 z26 z27 z28 z29 z30 z31 z32 z33 z36 z37 z38 z39 z40 z41 z42 z43 z44 z45 z46 z47 z48 z55 z56 z59 z60 z61 n0 n1 n49 n50 n51 n52 n53 n54 n57 n58 n62 n63 g n (F_m_fails g n rs 3))) s H locs := hw
    refine W.eq (g2 := F0 m 24 ls [.int 0]) rfl ?_
    have hE : (F_m_readsLaw0 g n rs a) = (0, (F_m_fails g n rs 3), a) := by unfold F_m_readsLaw0; rw [if_neg c_329]
    have hw : kW γ A ((mWa γ z10 z11 z12 z13 z14 z15 z16 z17 z18 z19 z22 z23 ((F_m_readsLaw0 g n rs a).2.2)) ++ (mWz γ z z2 z10 z11 z12 z13 z14 z15 z16 z17 z18 z19 z22 z23 z24 z25 z26 z27 z28 z29 z30 z31 z32 z33 z36 z37 z38 z39 z40 z41 z42 z43 z44 z45 z46 z47 z48 z55 z56 z59 z60 z61 n0 n1 n49 n50 n51 n52 n53 n54 n57 n58 n62 n63 g n ((F_m_readsLaw0 g n rs a).2.1))) s H locs := by first | (rw [hE]; exact hw) | exact hw
    exact k_zret hC hr hlocks rfl hw [12, 13, 0, 1, 2, 3, 4, 5, 6, 7, 8, 9, 10, 11] rfl rfl ⟨by rw [hE], rfl⟩ (by decide) (by decide) dX12_readsLaw_24

def F_m_readsLaw1 (g : Nat → Int32) (n : Nat) (rs : mRS) (a : mAS) : Int32 × mRS × mAS :=
  if ((a.2.2.2.2.2.2.2.2.1) 3) ≤ ((a.2.2.2.2.2.2.2.1) 3) then (if ((F_m_reads g n (mv g n rs) ((a.1), (a.2.1), (a.2.2.1), (a.2.2.2.1), (a.2.2.2.2.1), (a.2.2.2.2.2.1), (a.2.2.2.2.2.2.1), (upd (a.2.2.2.2.2.2.2.1) 3 (nI ((mv g n rs).2.2.2.2.2))), (a.2.2.2.2.2.2.2.2.1), (a.2.2.2.2.2.2.2.2.2.1), (a.2.2.2.2.2.2.2.2.2.2.1), (a.2.2.2.2.2.2.2.2.2.2.2))).1) = 0 then (0, ((F_m_reads g n (mv g n rs) ((a.1), (a.2.1), (a.2.2.1), (a.2.2.2.1), (a.2.2.2.2.1), (a.2.2.2.2.2.1), (a.2.2.2.2.2.2.1), (upd (a.2.2.2.2.2.2.2.1) 3 (nI ((mv g n rs).2.2.2.2.2))), (a.2.2.2.2.2.2.2.2.1), (a.2.2.2.2.2.2.2.2.2.1), (a.2.2.2.2.2.2.2.2.2.2.1), (a.2.2.2.2.2.2.2.2.2.2.2))).2.1), ((F_m_reads g n (mv g n rs) ((a.1), (a.2.1), (a.2.2.1), (a.2.2.2.1), (a.2.2.2.2.1), (a.2.2.2.2.2.1), (a.2.2.2.2.2.2.1), (upd (a.2.2.2.2.2.2.2.1) 3 (nI ((mv g n rs).2.2.2.2.2))), (a.2.2.2.2.2.2.2.2.1), (a.2.2.2.2.2.2.2.2.2.1), (a.2.2.2.2.2.2.2.2.2.2.1), (a.2.2.2.2.2.2.2.2.2.2.2))).2.2)) else (1, ((F_m_reads g n (mv g n rs) ((a.1), (a.2.1), (a.2.2.1), (a.2.2.2.1), (a.2.2.2.2.1), (a.2.2.2.2.2.1), (a.2.2.2.2.2.2.1), (upd (a.2.2.2.2.2.2.2.1) 3 (nI ((mv g n rs).2.2.2.2.2))), (a.2.2.2.2.2.2.2.2.1), (a.2.2.2.2.2.2.2.2.2.1), (a.2.2.2.2.2.2.2.2.2.2.1), (a.2.2.2.2.2.2.2.2.2.2.2))).2.1), ((((F_m_reads g n (mv g n rs) ((a.1), (a.2.1), (a.2.2.1), (a.2.2.2.1), (a.2.2.2.2.1), (a.2.2.2.2.2.1), (a.2.2.2.2.2.2.1), (upd (a.2.2.2.2.2.2.2.1) 3 (nI ((mv g n rs).2.2.2.2.2))), (a.2.2.2.2.2.2.2.2.1), (a.2.2.2.2.2.2.2.2.2.1), (a.2.2.2.2.2.2.2.2.2.2.1), (a.2.2.2.2.2.2.2.2.2.2.2))).2.2).1), (((F_m_reads g n (mv g n rs) ((a.1), (a.2.1), (a.2.2.1), (a.2.2.2.1), (a.2.2.2.2.1), (a.2.2.2.2.2.1), (a.2.2.2.2.2.2.1), (upd (a.2.2.2.2.2.2.2.1) 3 (nI ((mv g n rs).2.2.2.2.2))), (a.2.2.2.2.2.2.2.2.1), (a.2.2.2.2.2.2.2.2.2.1), (a.2.2.2.2.2.2.2.2.2.2.1), (a.2.2.2.2.2.2.2.2.2.2.2))).2.2).2.1), (((F_m_reads g n (mv g n rs) ((a.1), (a.2.1), (a.2.2.1), (a.2.2.2.1), (a.2.2.2.2.1), (a.2.2.2.2.2.1), (a.2.2.2.2.2.2.1), (upd (a.2.2.2.2.2.2.2.1) 3 (nI ((mv g n rs).2.2.2.2.2))), (a.2.2.2.2.2.2.2.2.1), (a.2.2.2.2.2.2.2.2.2.1), (a.2.2.2.2.2.2.2.2.2.2.1), (a.2.2.2.2.2.2.2.2.2.2.2))).2.2).2.2.1), (((F_m_reads g n (mv g n rs) ((a.1), (a.2.1), (a.2.2.1), (a.2.2.2.1), (a.2.2.2.2.1), (a.2.2.2.2.2.1), (a.2.2.2.2.2.2.1), (upd (a.2.2.2.2.2.2.2.1) 3 (nI ((mv g n rs).2.2.2.2.2))), (a.2.2.2.2.2.2.2.2.1), (a.2.2.2.2.2.2.2.2.2.1), (a.2.2.2.2.2.2.2.2.2.2.1), (a.2.2.2.2.2.2.2.2.2.2.2))).2.2).2.2.2.1), (((F_m_reads g n (mv g n rs) ((a.1), (a.2.1), (a.2.2.1), (a.2.2.2.1), (a.2.2.2.2.1), (a.2.2.2.2.2.1), (a.2.2.2.2.2.2.1), (upd (a.2.2.2.2.2.2.2.1) 3 (nI ((mv g n rs).2.2.2.2.2))), (a.2.2.2.2.2.2.2.2.1), (a.2.2.2.2.2.2.2.2.2.1), (a.2.2.2.2.2.2.2.2.2.2.1), (a.2.2.2.2.2.2.2.2.2.2.2))).2.2).2.2.2.2.1), (((F_m_reads g n (mv g n rs) ((a.1), (a.2.1), (a.2.2.1), (a.2.2.2.1), (a.2.2.2.2.1), (a.2.2.2.2.2.1), (a.2.2.2.2.2.2.1), (upd (a.2.2.2.2.2.2.2.1) 3 (nI ((mv g n rs).2.2.2.2.2))), (a.2.2.2.2.2.2.2.2.1), (a.2.2.2.2.2.2.2.2.2.1), (a.2.2.2.2.2.2.2.2.2.2.1), (a.2.2.2.2.2.2.2.2.2.2.2))).2.2).2.2.2.2.2.1), (((F_m_reads g n (mv g n rs) ((a.1), (a.2.1), (a.2.2.1), (a.2.2.2.1), (a.2.2.2.2.1), (a.2.2.2.2.2.1), (a.2.2.2.2.2.2.1), (upd (a.2.2.2.2.2.2.2.1) 3 (nI ((mv g n rs).2.2.2.2.2))), (a.2.2.2.2.2.2.2.2.1), (a.2.2.2.2.2.2.2.2.2.1), (a.2.2.2.2.2.2.2.2.2.2.1), (a.2.2.2.2.2.2.2.2.2.2.2))).2.2).2.2.2.2.2.2.1), (((F_m_reads g n (mv g n rs) ((a.1), (a.2.1), (a.2.2.1), (a.2.2.2.1), (a.2.2.2.2.1), (a.2.2.2.2.2.1), (a.2.2.2.2.2.2.1), (upd (a.2.2.2.2.2.2.2.1) 3 (nI ((mv g n rs).2.2.2.2.2))), (a.2.2.2.2.2.2.2.2.1), (a.2.2.2.2.2.2.2.2.2.1), (a.2.2.2.2.2.2.2.2.2.2.1), (a.2.2.2.2.2.2.2.2.2.2.2))).2.2).2.2.2.2.2.2.2.1), (upd (((F_m_reads g n (mv g n rs) ((a.1), (a.2.1), (a.2.2.1), (a.2.2.2.1), (a.2.2.2.2.1), (a.2.2.2.2.2.1), (a.2.2.2.2.2.2.1), (upd (a.2.2.2.2.2.2.2.1) 3 (nI ((mv g n rs).2.2.2.2.2))), (a.2.2.2.2.2.2.2.2.1), (a.2.2.2.2.2.2.2.2.2.1), (a.2.2.2.2.2.2.2.2.2.2.1), (a.2.2.2.2.2.2.2.2.2.2.2))).2.2).2.2.2.2.2.2.2.2.1) 3 (nI (((F_m_reads g n (mv g n rs) ((a.1), (a.2.1), (a.2.2.1), (a.2.2.2.1), (a.2.2.2.2.1), (a.2.2.2.2.2.1), (a.2.2.2.2.2.2.1), (upd (a.2.2.2.2.2.2.2.1) 3 (nI ((mv g n rs).2.2.2.2.2))), (a.2.2.2.2.2.2.2.2.1), (a.2.2.2.2.2.2.2.2.2.1), (a.2.2.2.2.2.2.2.2.2.2.1), (a.2.2.2.2.2.2.2.2.2.2.2))).2.1).2.2.2.2.2))), (((F_m_reads g n (mv g n rs) ((a.1), (a.2.1), (a.2.2.1), (a.2.2.2.1), (a.2.2.2.2.1), (a.2.2.2.2.2.1), (a.2.2.2.2.2.2.1), (upd (a.2.2.2.2.2.2.2.1) 3 (nI ((mv g n rs).2.2.2.2.2))), (a.2.2.2.2.2.2.2.2.1), (a.2.2.2.2.2.2.2.2.2.1), (a.2.2.2.2.2.2.2.2.2.2.1), (a.2.2.2.2.2.2.2.2.2.2.2))).2.2).2.2.2.2.2.2.2.2.2.1), (((F_m_reads g n (mv g n rs) ((a.1), (a.2.1), (a.2.2.1), (a.2.2.2.1), (a.2.2.2.2.1), (a.2.2.2.2.2.1), (a.2.2.2.2.2.2.1), (upd (a.2.2.2.2.2.2.2.1) 3 (nI ((mv g n rs).2.2.2.2.2))), (a.2.2.2.2.2.2.2.2.1), (a.2.2.2.2.2.2.2.2.2.1), (a.2.2.2.2.2.2.2.2.2.2.1), (a.2.2.2.2.2.2.2.2.2.2.2))).2.2).2.2.2.2.2.2.2.2.2.2.1), (((F_m_reads g n (mv g n rs) ((a.1), (a.2.1), (a.2.2.1), (a.2.2.2.1), (a.2.2.2.2.1), (a.2.2.2.2.2.1), (a.2.2.2.2.2.2.1), (upd (a.2.2.2.2.2.2.2.1) 3 (nI ((mv g n rs).2.2.2.2.2))), (a.2.2.2.2.2.2.2.2.1), (a.2.2.2.2.2.2.2.2.2.1), (a.2.2.2.2.2.2.2.2.2.2.1), (a.2.2.2.2.2.2.2.2.2.2.2))).2.2).2.2.2.2.2.2.2.2.2.2.2)))) else (0, (F_m_fails g n rs 3), a)
set_option maxHeartbeats 4000000 in
set_option maxRecDepth 100000 in
theorem c_m_readsLaw1 (γ : kΓ) (l : Launch) (z : Nat) (z2 : Nat) (z10 : Nat) (z11 : Nat) (z12 : Nat) (z13 : Nat) (z14 : Nat) (z15 : Nat) (z16 : Nat) (z17 : Nat) (z18 : Nat) (z19 : Nat) (z22 : Nat) (z23 : Nat) (z24 : Nat) (z25 : Nat) (z26 : Nat) (z27 : Nat) (z28 : Nat) (z29 : Nat) (z30 : Nat) (z31 : Nat) (z32 : Nat) (z33 : Nat) (z36 : Nat) (z37 : Nat) (z38 : Nat) (z39 : Nat) (z40 : Nat) (z41 : Nat) (z42 : Nat) (z43 : Nat) (z44 : Nat) (z45 : Nat) (z46 : Nat) (z47 : Nat) (z48 : Nat) (z55 : Nat) (z56 : Nat) (z59 : Nat) (z60 : Nat) (z61 : Nat) (n0 : Int32) (n1 : Int32) (n49 : Int32) (n50 : Int32) (n51 : Int32) (n52 : Int32) (n53 : Int32) (n54 : Int32) (n57 : Int32) (n58 : Int32) (n62 : Int32) (n63 : Int64) (n : Nat) (g : Nat → Int32) (rs : mRS) (a : mAS) (hn : n ≤ 1000) (hcd : mC g n rs) : kM γ l yX12_readsLaw cX12_readsLaw 2 ((some .boolean)) ({ frames := 3, cells := 0, slots := 0, locals := 86 } : Room) [.ref z, .int 1] ((mWz γ z z2 z10 z11 z12 z13 z14 z15 z16 z17 z18 z19 z22 z23 z24 z25 z26 z27 z28 z29 z30 z31 z32 z33 z36 z37 z38 z39 z40 z41 z42 z43 z44 z45 z46 z47 z48 z55 z56 z59 z60 z61 n0 n1 n49 n50 n51 n52 n53 n54 n57 n58 n62 n63 g n rs) ++ (mWa γ z10 z11 z12 z13 z14 z15 z16 z17 z18 z19 z22 z23 a)) (fun r w1 => r = some (.int ((F_m_readsLaw1 g n rs a).1)) ∧ w1 = ((mWz γ z z2 z10 z11 z12 z13 z14 z15 z16 z17 z18 z19 z22 z23 z24 z25 z26 z27 z28 z29 z30 z31 z32 z33 z36 z37 z38 z39 z40 z41 z42 z43 z44 z45 z46 z47 z48 z55 z56 z59 z60 z61 n0 n1 n49 n50 n51 n52 n53 n54 n57 n58 n62 n63 g n ((F_m_readsLaw1 g n rs a).2.1)) ++ (mWa γ z10 z11 z12 z13 z14 z15 z16 z17 z18 z19 z22 z23 ((F_m_readsLaw1 g n rs a).2.2)))) := by
  refine k_ofW (by decide) (Nat.le_of_ble_eq_true rfl) ?_
  intro p9 e s m below meth c A ls hC hr hlocks hname hw hl
  have hx := hC.1
  have hb := hC.2.1
  have hl : lv_has ls 2 [(0, .ref z), (1, .int 1)] := hl
  refine lv_aload_n hx hb dX12_readsLaw_0 rfl (lv_at hl 0 rfl) ?_
  refine fg_RX12_38 hC hw 0 rfl rfl dX12_readsLaw_1 ?_
  refine lv_iconst (v := 2) hx hb dX12_readsLaw_4 (by decide) ?_
  refine lv_iload_n hx hb dX12_readsLaw_5 rfl (lv_at hl 1 rfl) ?_
  refine lv_iadd hx hb dX12_readsLaw_6 ?_
  refine lv_topi (fun x_341 ex_341 => ?_)
  obtain rfl : x_341 = 3 := ex_341.trans (by decide)
  refine k_iald hC hw 10 rfl (k_in0 (by decide)) dX12_readsLaw_7 ?_
  refine lv_topi (fun x_342 ex_342 => ?_)
  obtain rfl : x_342 = ((a.2.2.2.2.2.2.2.2.1) 3) := ex_342
  refine lv_aload_n hx hb dX12_readsLaw_8 rfl (lv_at hl 0 rfl) ?_
  refine fg_RX12_35 hC hw 0 rfl rfl dX12_readsLaw_9 ?_
  refine lv_iconst (v := 2) hx hb dX12_readsLaw_12 (by decide) ?_
  refine lv_iload_n hx hb dX12_readsLaw_13 rfl (lv_at hl 1 rfl) ?_
  refine lv_iadd hx hb dX12_readsLaw_14 ?_
  refine lv_topi (fun x_343 ex_343 => ?_)
  obtain rfl : x_343 = 3 := ex_343.trans (by decide)
  refine k_iald hC hw 9 rfl (k_in0 (by decide)) dX12_readsLaw_15 ?_
  refine lv_topi (fun x_344 ex_344 => ?_)
  obtain rfl : x_344 = ((a.2.2.2.2.2.2.2.1) 3) := ex_344
  refine lv_icmp_le (tgt := 25) hx hb dX12_readsLaw_16 (by decide) (fun c_345 => ?_) (fun c_345 => ?_)
  · refine lv_aload_n hx hb dX12_readsLaw_25 rfl (lv_at hl 0 rfl) ?_
    refine k_V (wr := (mWa γ z10 z11 z12 z13 z14 z15 z16 z17 z18 z19 z22 z23 a)) 0 gw_1402 gw_1404 gp_54 gw_15 gw_1405 hd_X12_nextToken hC hw (c_mv γ l z z2 z10 z11 z12 z13 z14 z15 z16 z17 z18 z19 z22 z23 z24 z25 z26 z27 z28 z29 z30 z31 z32 z33 z36 z37 z38 z39 z40 z41 z42 z43 z44 z45 z46 z47 z48 z55 z56 z59 z60 z61 n0 n1 n49 n50 n51 n52 n53 n54 n57 n58 n62 n63 n g rs hn) ⟨by decide, by decide⟩ ⟨by decide, by decide⟩ hl.1 rfl 0 rfl rfl rfl (Nat.le_of_ble_eq_true rfl) [0, 1] [2, 3, 4, 5, 6, 7, 8, 9, 10, 11, 12, 13] rfl rfl rfl rfl (by decide) dX12_readsLaw_26 (fun r w1 H locs hq hw => ?_)
    obtain ⟨rfl, rfl⟩ := hq
    have hw : kW γ A ((mWa γ z10 z11 z12 z13 z14 z15 z16 z17 z18 z19 z22 z23 a) ++ (mWz γ z z2 z10 z11 z12 z13 z14 z15 z16 z17 z18 z19 z22 z23 z24 z25 z26 z27 z28 z29 z30 z31 z32 z33 z36 z37 z38 z39 z40 z41 z42 z43 z44 z45 z46 z47 z48 z55 z56 z59 z60 z61 n0 n1 n49 n50 n51 n52 n53 n54 n57 n58 n62 n63 g n (mv g n rs))) s H locs := hw
    refine W.eq (g2 := F0 m 29 ls []) rfl ?_
    refine lv_aload_n hx hb dX12_readsLaw_29 rfl (lv_at hl 0 rfl) ?_
    refine fg_RX12_35 hC hw 12 rfl rfl dX12_readsLaw_30 ?_
    refine lv_iconst (v := 2) hx hb dX12_readsLaw_33 (by decide) ?_
    refine lv_iload_n hx hb dX12_readsLaw_34 rfl (lv_at hl 1 rfl) ?_
    refine lv_iadd hx hb dX12_readsLaw_35 ?_
    refine lv_topi (fun x_346 ex_346 => ?_)
    obtain rfl : x_346 = 3 := ex_346.trans (by decide)
    refine lv_aload_n hx hb dX12_readsLaw_36 rfl (lv_at hl 0 rfl) ?_
    refine fg_RX12_181 hC hw 12 rfl rfl dX12_readsLaw_37 ?_
    refine k_iast hC hw 7 rfl (k_in0 (by decide)) dX12_readsLaw_40 (fun H locs hw => ?_)
    have hw : kW γ A ((mWa γ z10 z11 z12 z13 z14 z15 z16 z17 z18 z19 z22 z23 ((a.1), (a.2.1), (a.2.2.1), (a.2.2.2.1), (a.2.2.2.2.1), (a.2.2.2.2.2.1), (a.2.2.2.2.2.2.1), (upd (a.2.2.2.2.2.2.2.1) 3 (nI ((mv g n rs).2.2.2.2.2))), (a.2.2.2.2.2.2.2.2.1), (a.2.2.2.2.2.2.2.2.2.1), (a.2.2.2.2.2.2.2.2.2.2.1), (a.2.2.2.2.2.2.2.2.2.2.2))) ++ (mWz γ z z2 z10 z11 z12 z13 z14 z15 z16 z17 z18 z19 z22 z23 z24 z25 z26 z27 z28 z29 z30 z31 z32 z33 z36 z37 z38 z39 z40 z41 z42 z43 z44 z45 z46 z47 z48 z55 z56 z59 z60 z61 n0 n1 n49 n50 n51 n52 n53 n54 n57 n58 n62 n63 g n (mv g n rs))) s H locs := hw
    refine lv_aload_n hx hb dX12_readsLaw_41 rfl (lv_at hl 0 rfl) ?_
    refine k_V (wr := []) 0 gw_1499 gw_1501 gp_72 gw_15 gw_1502 hd_X12_reads hC hw (c_m_reads γ l z z2 z10 z11 z12 z13 z14 z15 z16 z17 z18 z19 z22 z23 z24 z25 z26 z27 z28 z29 z30 z31 z32 z33 z36 z37 z38 z39 z40 z41 z42 z43 z44 z45 z46 z47 z48 z55 z56 z59 z60 z61 n0 n1 n49 n50 n51 n52 n53 n54 n57 n58 n62 n63 n g (mv g n rs) ((a.1), (a.2.1), (a.2.2.1), (a.2.2.2.1), (a.2.2.2.2.1), (a.2.2.2.2.2.1), (a.2.2.2.2.2.2.1), (upd (a.2.2.2.2.2.2.2.1) 3 (nI ((mv g n rs).2.2.2.2.2))), (a.2.2.2.2.2.2.2.2.1), (a.2.2.2.2.2.2.2.2.2.1), (a.2.2.2.2.2.2.2.2.2.2.1), (a.2.2.2.2.2.2.2.2.2.2.2)) hn (mC_mv hcd)) ⟨by decide, by decide⟩ ⟨by decide, by decide⟩ hl.1 rfl 12 rfl rfl rfl (Nat.le_of_ble_eq_true rfl) [12, 13, 0, 1, 2, 3, 4, 5, 6, 7, 8, 9, 10, 11] [] rfl rfl rfl rfl (by decide) dX12_readsLaw_42 (fun r w1 H locs hq hw => ?_)
    obtain ⟨rfl, rfl⟩ := hq
    have hw : kW γ A ((mWz γ z z2 z10 z11 z12 z13 z14 z15 z16 z17 z18 z19 z22 z23 z24 z25 z26 z27 z28 z29 z30 z31 z32 z33 z36 z37 z38 z39 z40 z41 z42 z43 z44 z45 z46 z47 z48 z55 z56 z59 z60 z61 n0 n1 n49 n50 n51 n52 n53 n54 n57 n58 n62 n63 g n ((F_m_reads g n (mv g n rs) ((a.1), (a.2.1), (a.2.2.1), (a.2.2.2.1), (a.2.2.2.2.1), (a.2.2.2.2.2.1), (a.2.2.2.2.2.2.1), (upd (a.2.2.2.2.2.2.2.1) 3 (nI ((mv g n rs).2.2.2.2.2))), (a.2.2.2.2.2.2.2.2.1), (a.2.2.2.2.2.2.2.2.2.1), (a.2.2.2.2.2.2.2.2.2.2.1), (a.2.2.2.2.2.2.2.2.2.2.2))).2.1)) ++ (mWa γ z10 z11 z12 z13 z14 z15 z16 z17 z18 z19 z22 z23 ((F_m_reads g n (mv g n rs) ((a.1), (a.2.1), (a.2.2.1), (a.2.2.2.1), (a.2.2.2.2.1), (a.2.2.2.2.2.1), (a.2.2.2.2.2.2.1), (upd (a.2.2.2.2.2.2.2.1) 3 (nI ((mv g n rs).2.2.2.2.2))), (a.2.2.2.2.2.2.2.2.1), (a.2.2.2.2.2.2.2.2.2.1), (a.2.2.2.2.2.2.2.2.2.2.1), (a.2.2.2.2.2.2.2.2.2.2.2))).2.2))) s H locs := hw
    refine W.eq (g2 := F0 m 45 ls [.int ((F_m_reads g n (mv g n rs) ((a.1), (a.2.1), (a.2.2.1), (a.2.2.2.1), (a.2.2.2.2.1), (a.2.2.2.2.2.1), (a.2.2.2.2.2.2.1), (upd (a.2.2.2.2.2.2.2.1) 3 (nI ((mv g n rs).2.2.2.2.2))), (a.2.2.2.2.2.2.2.2.1), (a.2.2.2.2.2.2.2.2.2.1), (a.2.2.2.2.2.2.2.2.2.2.1), (a.2.2.2.2.2.2.2.2.2.2.2))).1)]) rfl ?_
    refine lv_if_ne (tgt := 50) hx hb dX12_readsLaw_45 (by decide) (fun c_347 => ?_) (fun c_347 => ?_)
    · refine lv_aload_n hx hb dX12_readsLaw_50 rfl (lv_at hl 0 rfl) ?_
      refine fg_RX12_38 hC hw 0 rfl rfl dX12_readsLaw_51 ?_
      refine lv_iconst (v := 2) hx hb dX12_readsLaw_54 (by decide) ?_
      refine lv_iload_n hx hb dX12_readsLaw_55 rfl (lv_at hl 1 rfl) ?_
      refine lv_iadd hx hb dX12_readsLaw_56 ?_
      refine lv_topi (fun x_348 ex_348 => ?_)
      obtain rfl : x_348 = 3 := ex_348.trans (by decide)
      refine lv_aload_n hx hb dX12_readsLaw_57 rfl (lv_at hl 0 rfl) ?_
      refine fg_RX12_181 hC hw 0 rfl rfl dX12_readsLaw_58 ?_
      refine k_iast hC hw 10 rfl (k_in0 (by decide)) dX12_readsLaw_61 (fun H locs hw => ?_)
      have hw : kW γ A ((mWz γ z z2 z10 z11 z12 z13 z14 z15 z16 z17 z18 z19 z22 z23 z24 z25 z26 z27 z28 z29 z30 z31 z32 z33 z36 z37 z38 z39 z40 z41 z42 z43 z44 z45 z46 z47 z48 z55 z56 z59 z60 z61 n0 n1 n49 n50 n51 n52 n53 n54 n57 n58 n62 n63 g n ((F_m_reads g n (mv g n rs) ((a.1), (a.2.1), (a.2.2.1), (a.2.2.2.1), (a.2.2.2.2.1), (a.2.2.2.2.2.1), (a.2.2.2.2.2.2.1), (upd (a.2.2.2.2.2.2.2.1) 3 (nI ((mv g n rs).2.2.2.2.2))), (a.2.2.2.2.2.2.2.2.1), (a.2.2.2.2.2.2.2.2.2.1), (a.2.2.2.2.2.2.2.2.2.2.1), (a.2.2.2.2.2.2.2.2.2.2.2))).2.1)) ++ (mWa γ z10 z11 z12 z13 z14 z15 z16 z17 z18 z19 z22 z23 ((((F_m_reads g n (mv g n rs) ((a.1), (a.2.1), (a.2.2.1), (a.2.2.2.1), (a.2.2.2.2.1), (a.2.2.2.2.2.1), (a.2.2.2.2.2.2.1), (upd (a.2.2.2.2.2.2.2.1) 3 (nI ((mv g n rs).2.2.2.2.2))), (a.2.2.2.2.2.2.2.2.1), (a.2.2.2.2.2.2.2.2.2.1), (a.2.2.2.2.2.2.2.2.2.2.1), (a.2.2.2.2.2.2.2.2.2.2.2))).2.2).1), (((F_m_reads g n (mv g n rs) ((a.1), (a.2.1), (a.2.2.1), (a.2.2.2.1), (a.2.2.2.2.1), (a.2.2.2.2.2.1), (a.2.2.2.2.2.2.1), (upd (a.2.2.2.2.2.2.2.1) 3 (nI ((mv g n rs).2.2.2.2.2))), (a.2.2.2.2.2.2.2.2.1), (a.2.2.2.2.2.2.2.2.2.1), (a.2.2.2.2.2.2.2.2.2.2.1), (a.2.2.2.2.2.2.2.2.2.2.2))).2.2).2.1), (((F_m_reads g n (mv g n rs) ((a.1), (a.2.1), (a.2.2.1), (a.2.2.2.1), (a.2.2.2.2.1), (a.2.2.2.2.2.1), (a.2.2.2.2.2.2.1), (upd (a.2.2.2.2.2.2.2.1) 3 (nI ((mv g n rs).2.2.2.2.2))), (a.2.2.2.2.2.2.2.2.1), (a.2.2.2.2.2.2.2.2.2.1), (a.2.2.2.2.2.2.2.2.2.2.1), (a.2.2.2.2.2.2.2.2.2.2.2))).2.2).2.2.1), (((F_m_reads g n (mv g n rs) ((a.1), (a.2.1), (a.2.2.1), (a.2.2.2.1), (a.2.2.2.2.1), (a.2.2.2.2.2.1), (a.2.2.2.2.2.2.1), (upd (a.2.2.2.2.2.2.2.1) 3 (nI ((mv g n rs).2.2.2.2.2))), (a.2.2.2.2.2.2.2.2.1), (a.2.2.2.2.2.2.2.2.2.1), (a.2.2.2.2.2.2.2.2.2.2.1), (a.2.2.2.2.2.2.2.2.2.2.2))).2.2).2.2.2.1), (((F_m_reads g n (mv g n rs) ((a.1), (a.2.1), (a.2.2.1), (a.2.2.2.1), (a.2.2.2.2.1), (a.2.2.2.2.2.1), (a.2.2.2.2.2.2.1), (upd (a.2.2.2.2.2.2.2.1) 3 (nI ((mv g n rs).2.2.2.2.2))), (a.2.2.2.2.2.2.2.2.1), (a.2.2.2.2.2.2.2.2.2.1), (a.2.2.2.2.2.2.2.2.2.2.1), (a.2.2.2.2.2.2.2.2.2.2.2))).2.2).2.2.2.2.1), (((F_m_reads g n (mv g n rs) ((a.1), (a.2.1), (a.2.2.1), (a.2.2.2.1), (a.2.2.2.2.1), (a.2.2.2.2.2.1), (a.2.2.2.2.2.2.1), (upd (a.2.2.2.2.2.2.2.1) 3 (nI ((mv g n rs).2.2.2.2.2))), (a.2.2.2.2.2.2.2.2.1), (a.2.2.2.2.2.2.2.2.2.1), (a.2.2.2.2.2.2.2.2.2.2.1), (a.2.2.2.2.2.2.2.2.2.2.2))).2.2).2.2.2.2.2.1), (((F_m_reads g n (mv g n rs) ((a.1), (a.2.1), (a.2.2.1), (a.2.2.2.1), (a.2.2.2.2.1), (a.2.2.2.2.2.1), (a.2.2.2.2.2.2.1), (upd (a.2.2.2.2.2.2.2.1) 3 (nI ((mv g n rs).2.2.2.2.2))), (a.2.2.2.2.2.2.2.2.1), (a.2.2.2.2.2.2.2.2.2.1), (a.2.2.2.2.2.2.2.2.2.2.1), (a.2.2.2.2.2.2.2.2.2.2.2))).2.2).2.2.2.2.2.2.1), (((F_m_reads g n (mv g n rs) ((a.1), (a.2.1), (a.2.2.1), (a.2.2.2.1), (a.2.2.2.2.1), (a.2.2.2.2.2.1), (a.2.2.2.2.2.2.1), (upd (a.2.2.2.2.2.2.2.1) 3 (nI ((mv g n rs).2.2.2.2.2))), (a.2.2.2.2.2.2.2.2.1), (a.2.2.2.2.2.2.2.2.2.1), (a.2.2.2.2.2.2.2.2.2.2.1), (a.2.2.2.2.2.2.2.2.2.2.2))).2.2).2.2.2.2.2.2.2.1), (upd (((F_m_reads g n (mv g n rs) ((a.1), (a.2.1), (a.2.2.1), (a.2.2.2.1), (a.2.2.2.2.1), (a.2.2.2.2.2.1), (a.2.2.2.2.2.2.1), (upd (a.2.2.2.2.2.2.2.1) 3 (nI ((mv g n rs).2.2.2.2.2))), (a.2.2.2.2.2.2.2.2.1), (a.2.2.2.2.2.2.2.2.2.1), (a.2.2.2.2.2.2.2.2.2.2.1), (a.2.2.2.2.2.2.2.2.2.2.2))).2.2).2.2.2.2.2.2.2.2.1) 3 (nI (((F_m_reads g n (mv g n rs) ((a.1), (a.2.1), (a.2.2.1), (a.2.2.2.1), (a.2.2.2.2.1), (a.2.2.2.2.2.1), (a.2.2.2.2.2.2.1), (upd (a.2.2.2.2.2.2.2.1) 3 (nI ((mv g n rs).2.2.2.2.2))), (a.2.2.2.2.2.2.2.2.1), (a.2.2.2.2.2.2.2.2.2.1), (a.2.2.2.2.2.2.2.2.2.2.1), (a.2.2.2.2.2.2.2.2.2.2.2))).2.1).2.2.2.2.2))), (((F_m_reads g n (mv g n rs) ((a.1), (a.2.1), (a.2.2.1), (a.2.2.2.1), (a.2.2.2.2.1), (a.2.2.2.2.2.1), (a.2.2.2.2.2.2.1), (upd (a.2.2.2.2.2.2.2.1) 3 (nI ((mv g n rs).2.2.2.2.2))), (a.2.2.2.2.2.2.2.2.1), (a.2.2.2.2.2.2.2.2.2.1), (a.2.2.2.2.2.2.2.2.2.2.1), (a.2.2.2.2.2.2.2.2.2.2.2))).2.2).2.2.2.2.2.2.2.2.2.1), (((F_m_reads g n (mv g n rs) ((a.1), (a.2.1), (a.2.2.1), (a.2.2.2.1), (a.2.2.2.2.1), (a.2.2.2.2.2.1), (a.2.2.2.2.2.2.1), (upd (a.2.2.2.2.2.2.2.1) 3 (nI ((mv g n rs).2.2.2.2.2))), (a.2.2.2.2.2.2.2.2.1), (a.2.2.2.2.2.2.2.2.2.1), (a.2.2.2.2.2.2.2.2.2.2.1), (a.2.2.2.2.2.2.2.2.2.2.2))).2.2).2.2.2.2.2.2.2.2.2.2.1), (((F_m_reads g n (mv g n rs) ((a.1), (a.2.1), (a.2.2.1), (a.2.2.2.1), (a.2.2.2.2.1), (a.2.2.2.2.2.1), (a.2.2.2.2.2.2.1), (upd (a.2.2.2.2.2.2.2.1) 3 (nI ((mv g n rs).2.2.2.2.2))), (a.2.2.2.2.2.2.2.2.1), (a.2.2.2.2.2.2.2.2.2.1), (a.2.2.2.2.2.2.2.2.2.2.1), (a.2.2.2.2.2.2.2.2.2.2.2))).2.2).2.2.2.2.2.2.2.2.2.2.2)))) s H locs := hw
      refine lv_iconst (v := 1) hx hb dX12_readsLaw_62 (by decide) ?_
      have hE : (F_m_readsLaw1 g n rs a) = (1, ((F_m_reads g n (mv g n rs) ((a.1), (a.2.1), (a.2.2.1), (a.2.2.2.1), (a.2.2.2.2.1), (a.2.2.2.2.2.1), (a.2.2.2.2.2.2.1), (upd (a.2.2.2.2.2.2.2.1) 3 (nI ((mv g n rs).2.2.2.2.2))), (a.2.2.2.2.2.2.2.2.1), (a.2.2.2.2.2.2.2.2.2.1), (a.2.2.2.2.2.2.2.2.2.2.1), (a.2.2.2.2.2.2.2.2.2.2.2))).2.1), ((((F_m_reads g n (mv g n rs) ((a.1), (a.2.1), (a.2.2.1), (a.2.2.2.1), (a.2.2.2.2.1), (a.2.2.2.2.2.1), (a.2.2.2.2.2.2.1), (upd (a.2.2.2.2.2.2.2.1) 3 (nI ((mv g n rs).2.2.2.2.2))), (a.2.2.2.2.2.2.2.2.1), (a.2.2.2.2.2.2.2.2.2.1), (a.2.2.2.2.2.2.2.2.2.2.1), (a.2.2.2.2.2.2.2.2.2.2.2))).2.2).1), (((F_m_reads g n (mv g n rs) ((a.1), (a.2.1), (a.2.2.1), (a.2.2.2.1), (a.2.2.2.2.1), (a.2.2.2.2.2.1), (a.2.2.2.2.2.2.1), (upd (a.2.2.2.2.2.2.2.1) 3 (nI ((mv g n rs).2.2.2.2.2))), (a.2.2.2.2.2.2.2.2.1), (a.2.2.2.2.2.2.2.2.2.1), (a.2.2.2.2.2.2.2.2.2.2.1), (a.2.2.2.2.2.2.2.2.2.2.2))).2.2).2.1), (((F_m_reads g n (mv g n rs) ((a.1), (a.2.1), (a.2.2.1), (a.2.2.2.1), (a.2.2.2.2.1), (a.2.2.2.2.2.1), (a.2.2.2.2.2.2.1), (upd (a.2.2.2.2.2.2.2.1) 3 (nI ((mv g n rs).2.2.2.2.2))), (a.2.2.2.2.2.2.2.2.1), (a.2.2.2.2.2.2.2.2.2.1), (a.2.2.2.2.2.2.2.2.2.2.1), (a.2.2.2.2.2.2.2.2.2.2.2))).2.2).2.2.1), (((F_m_reads g n (mv g n rs) ((a.1), (a.2.1), (a.2.2.1), (a.2.2.2.1), (a.2.2.2.2.1), (a.2.2.2.2.2.1), (a.2.2.2.2.2.2.1), (upd (a.2.2.2.2.2.2.2.1) 3 (nI ((mv g n rs).2.2.2.2.2))), (a.2.2.2.2.2.2.2.2.1), (a.2.2.2.2.2.2.2.2.2.1), (a.2.2.2.2.2.2.2.2.2.2.1), (a.2.2.2.2.2.2.2.2.2.2.2))).2.2).2.2.2.1), (((F_m_reads g n (mv g n rs) ((a.1), (a.2.1), (a.2.2.1), (a.2.2.2.1), (a.2.2.2.2.1), (a.2.2.2.2.2.1), (a.2.2.2.2.2.2.1), (upd (a.2.2.2.2.2.2.2.1) 3 (nI ((mv g n rs).2.2.2.2.2))), (a.2.2.2.2.2.2.2.2.1), (a.2.2.2.2.2.2.2.2.2.1), (a.2.2.2.2.2.2.2.2.2.2.1), (a.2.2.2.2.2.2.2.2.2.2.2))).2.2).2.2.2.2.1), (((F_m_reads g n (mv g n rs) ((a.1), (a.2.1), (a.2.2.1), (a.2.2.2.1), (a.2.2.2.2.1), (a.2.2.2.2.2.1), (a.2.2.2.2.2.2.1), (upd (a.2.2.2.2.2.2.2.1) 3 (nI ((mv g n rs).2.2.2.2.2))), (a.2.2.2.2.2.2.2.2.1), (a.2.2.2.2.2.2.2.2.2.1), (a.2.2.2.2.2.2.2.2.2.2.1), (a.2.2.2.2.2.2.2.2.2.2.2))).2.2).2.2.2.2.2.1), (((F_m_reads g n (mv g n rs) ((a.1), (a.2.1), (a.2.2.1), (a.2.2.2.1), (a.2.2.2.2.1), (a.2.2.2.2.2.1), (a.2.2.2.2.2.2.1), (upd (a.2.2.2.2.2.2.2.1) 3 (nI ((mv g n rs).2.2.2.2.2))), (a.2.2.2.2.2.2.2.2.1), (a.2.2.2.2.2.2.2.2.2.1), (a.2.2.2.2.2.2.2.2.2.2.1), (a.2.2.2.2.2.2.2.2.2.2.2))).2.2).2.2.2.2.2.2.1), (((F_m_reads g n (mv g n rs) ((a.1), (a.2.1), (a.2.2.1), (a.2.2.2.1), (a.2.2.2.2.1), (a.2.2.2.2.2.1), (a.2.2.2.2.2.2.1), (upd (a.2.2.2.2.2.2.2.1) 3 (nI ((mv g n rs).2.2.2.2.2))), (a.2.2.2.2.2.2.2.2.1), (a.2.2.2.2.2.2.2.2.2.1), (a.2.2.2.2.2.2.2.2.2.2.1), (a.2.2.2.2.2.2.2.2.2.2.2))).2.2).2.2.2.2.2.2.2.1), (upd (((F_m_reads g n (mv g n rs) ((a.1), (a.2.1), (a.2.2.1), (a.2.2.2.1), (a.2.2.2.2.1), (a.2.2.2.2.2.1), (a.2.2.2.2.2.2.1), (upd (a.2.2.2.2.2.2.2.1) 3 (nI ((mv g n rs).2.2.2.2.2))), (a.2.2.2.2.2.2.2.2.1), (a.2.2.2.2.2.2.2.2.2.1), (a.2.2.2.2.2.2.2.2.2.2.1), (a.2.2.2.2.2.2.2.2.2.2.2))).2.2).2.2.2.2.2.2.2.2.1) 3 (nI (((F_m_reads g n (mv g n rs) ((a.1), (a.2.1), (a.2.2.1), (a.2.2.2.1), (a.2.2.2.2.1), (a.2.2.2.2.2.1), (a.2.2.2.2.2.2.1), (upd (a.2.2.2.2.2.2.2.1) 3 (nI ((mv g n rs).2.2.2.2.2))), (a.2.2.2.2.2.2.2.2.1), (a.2.2.2.2.2.2.2.2.2.1), (a.2.2.2.2.2.2.2.2.2.2.1), (a.2.2.2.2.2.2.2.2.2.2.2))).2.1).2.2.2.2.2))), (((F_m_reads g n (mv g n rs) ((a.1), (a.2.1), (a.2.2.1), (a.2.2.2.1), (a.2.2.2.2.1), (a.2.2.2.2.2.1), (a.2.2.2.2.2.2.1), (upd (a.2.2.2.2.2.2.2.1) 3 (nI ((mv g n rs).2.2.2.2.2))), (a.2.2.2.2.2.2.2.2.1), (a.2.2.2.2.2.2.2.2.2.1), (a.2.2.2.2.2.2.2.2.2.2.1), (a.2.2.2.2.2.2.2.2.2.2.2))).2.2).2.2.2.2.2.2.2.2.2.1), (((F_m_reads g n (mv g n rs) ((a.1), (a.2.1), (a.2.2.1), (a.2.2.2.1), (a.2.2.2.2.1), (a.2.2.2.2.2.1), (a.2.2.2.2.2.2.1), (upd (a.2.2.2.2.2.2.2.1) 3 (nI ((mv g n rs).2.2.2.2.2))), (a.2.2.2.2.2.2.2.2.1), (a.2.2.2.2.2.2.2.2.2.1), (a.2.2.2.2.2.2.2.2.2.2.1), (a.2.2.2.2.2.2.2.2.2.2.2))).2.2).2.2.2.2.2.2.2.2.2.2.1), (((F_m_reads g n (mv g n rs) ((a.1), (a.2.1), (a.2.2.1), (a.2.2.2.1), (a.2.2.2.2.1), (a.2.2.2.2.2.1), (a.2.2.2.2.2.2.1), (upd (a.2.2.2.2.2.2.2.1) 3 (nI ((mv g n rs).2.2.2.2.2))), (a.2.2.2.2.2.2.2.2.1), (a.2.2.2.2.2.2.2.2.2.1), (a.2.2.2.2.2.2.2.2.2.2.1), (a.2.2.2.2.2.2.2.2.2.2.2))).2.2).2.2.2.2.2.2.2.2.2.2.2))) := by unfold F_m_readsLaw1; rw [if_pos c_345, if_neg c_347]
      have hw : kW γ A ((mWz γ z z2 z10 z11 z12 z13 z14 z15 z16 z17 z18 z19 z22 z23 z24 z25 z26 z27 z28 z29 z30 z31 z32 z33 z36 z37 z38 z39 z40 z41 z42 z43 z44 z45 z46 z47 z48 z55 z56 z59 z60 z61 n0 n1 n49 n50 n51 n52 n53 n54 n57 n58 n62 n63 g n ((F_m_readsLaw1 g n rs a).2.1)) ++ (mWa γ z10 z11 z12 z13 z14 z15 z16 z17 z18 z19 z22 z23 ((F_m_readsLaw1 g n rs a).2.2))) s H locs := by first | (rw [hE]; exact hw) | exact hw
      exact k_zret hC hr hlocks rfl hw [0, 1, 2, 3, 4, 5, 6, 7, 8, 9, 10, 11, 12, 13] rfl rfl ⟨by rw [hE], rfl⟩ (by decide) (by decide) dX12_readsLaw_63
    · refine lv_iconst (v := 0) hx hb dX12_readsLaw_48 (by decide) ?_
      have hE : (F_m_readsLaw1 g n rs a) = (0, ((F_m_reads g n (mv g n rs) ((a.1), (a.2.1), (a.2.2.1), (a.2.2.2.1), (a.2.2.2.2.1), (a.2.2.2.2.2.1), (a.2.2.2.2.2.2.1), (upd (a.2.2.2.2.2.2.2.1) 3 (nI ((mv g n rs).2.2.2.2.2))), (a.2.2.2.2.2.2.2.2.1), (a.2.2.2.2.2.2.2.2.2.1), (a.2.2.2.2.2.2.2.2.2.2.1), (a.2.2.2.2.2.2.2.2.2.2.2))).2.1), ((F_m_reads g n (mv g n rs) ((a.1), (a.2.1), (a.2.2.1), (a.2.2.2.1), (a.2.2.2.2.1), (a.2.2.2.2.2.1), (a.2.2.2.2.2.2.1), (upd (a.2.2.2.2.2.2.2.1) 3 (nI ((mv g n rs).2.2.2.2.2))), (a.2.2.2.2.2.2.2.2.1), (a.2.2.2.2.2.2.2.2.2.1), (a.2.2.2.2.2.2.2.2.2.2.1), (a.2.2.2.2.2.2.2.2.2.2.2))).2.2)) := by unfold F_m_readsLaw1; rw [if_pos c_345, if_pos c_347]
      have hw : kW γ A ((mWz γ z z2 z10 z11 z12 z13 z14 z15 z16 z17 z18 z19 z22 z23 z24 z25 z26 z27 z28 z29 z30 z31 z32 z33 z36 z37 z38 z39 z40 z41 z42 z43 z44 z45 z46 z47 z48 z55 z56 z59 z60 z61 n0 n1 n49 n50 n51 n52 n53 n54 n57 n58 n62 n63 g n ((F_m_readsLaw1 g n rs a).2.1)) ++ (mWa γ z10 z11 z12 z13 z14 z15 z16 z17 z18 z19 z22 z23 ((F_m_readsLaw1 g n rs a).2.2))) s H locs := by first | (rw [hE]; exact hw) | exact hw
      exact k_zret hC hr hlocks rfl hw [0, 1, 2, 3, 4, 5, 6, 7, 8, 9, 10, 11, 12, 13] rfl rfl ⟨by rw [hE], rfl⟩ (by decide) (by decide) dX12_readsLaw_49
  · refine lv_aload_n hx hb dX12_readsLaw_19 rfl (lv_at hl 0 rfl) ?_
    refine lv_iconst (v := 3) hx hb dX12_readsLaw_20 (by decide) ?_
    refine k_V (wr := (mWa γ z10 z11 z12 z13 z14 z15 z16 z17 z18 z19 z22 z23 a)) 1 gw_1421 gw_1423 gp_58 gw_15 gw_1424 hd_X12_fails hC hw (c_m_fails γ l z z2 z10 z11 z12 z13 z14 z15 z16 z17 z18 z19 z22 z23 z24 z25 z26 z27 z28 z29 z30 z31 z32 z33 z36 z37 z38 z39 z40 z41 z42 z43 z44 z45 z46 z47 z48 z55 z56 z59 z60 z61 n0 n1 n49 n50 n51 n52 n53 n54 n57 n58 n62 n63 n g rs 3 hn) ⟨by decide, by decide⟩ ⟨by decide, by decide⟩ hl.1 rfl 0 rfl rfl rfl (Nat.le_of_ble_eq_true rfl) [0, 1] [2, 3, 4, 5, 6, 7, 8, 9, 10, 11, 12, 13] rfl rfl rfl rfl (by decide) dX12_readsLaw_21 (fun r w1 H locs hq hw => ?_)
    obtain ⟨rfl, rfl⟩ := hq
    have hw : kW γ A ((mWa γ z10 z11 z12 z13 z14 z15 z16 z17 z18 z19 z22 z23 a) ++ (mWz γ z z2 z10 z11 z12 z13 z14 z15 z16 z17 z18 z19 z22 z23 z24 z25 z26 z27 z28 z29 z30 z31 z32 z33 z36 z37 z38 z39 z40 z41 z42 z43 z44 z45 z46 z47 z48 z55 z56 z59 z60 z61 n0 n1 n49 n50 n51 n52 n53 n54 n57 n58 n62 n63 g n (F_m_fails g n rs 3))) s H locs := hw
    refine W.eq (g2 := F0 m 24 ls [.int 0]) rfl ?_
    have hE : (F_m_readsLaw1 g n rs a) = (0, (F_m_fails g n rs 3), a) := by unfold F_m_readsLaw1; rw [if_neg c_345]
    have hw : kW γ A ((mWa γ z10 z11 z12 z13 z14 z15 z16 z17 z18 z19 z22 z23 ((F_m_readsLaw1 g n rs a).2.2)) ++ (mWz γ z z2 z10 z11 z12 z13 z14 z15 z16 z17 z18 z19 z22 z23 z24 z25 z26 z27 z28 z29 z30 z31 z32 z33 z36 z37 z38 z39 z40 z41 z42 z43 z44 z45 z46 z47 z48 z55 z56 z59 z60 z61 n0 n1 n49 n50 n51 n52 n53 n54 n57 n58 n62 n63 g n ((F_m_readsLaw1 g n rs a).2.1))) s H locs := by first | (rw [hE]; exact hw) | exact hw
    exact k_zret hC hr hlocks rfl hw [12, 13, 0, 1, 2, 3, 4, 5, 6, 7, 8, 9, 10, 11] rfl rfl ⟨by rw [hE], rfl⟩ (by decide) (by decide) dX12_readsLaw_24

theorem mC_readsLaw0 {g : Nat → Int32} {n : Nat} {rs : mRS} {a : mAS} (h : mC g n rs) : mC g n (F_m_readsLaw0 g n rs a).2.1 := by
  unfold F_m_readsLaw0
  repeat' split
  all_goals first | exact h | exact mC_reads (mC_mv h)
theorem mC_readsLaw1 {g : Nat → Int32} {n : Nat} {rs : mRS} {a : mAS} (h : mC g n rs) : mC g n (F_m_readsLaw1 g n rs a).2.1 := by
  unfold F_m_readsLaw1
  repeat' split
  all_goals first | exact h | exact mC_reads (mC_mv h)


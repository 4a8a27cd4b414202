/-! a check in pieces -/
theorem q_chkE {D : qWd} {xr : List Nat} {tb : qTb} {MT : List qMt} {B : List qCon} {nL rk : Nat} {c : qCon} {T : qPg} {thr : List Nat} {sps : List (Nat × Nat)} {cuts : List qCut} {fu : Nat} {z : qN × qM × List AV} {w : qN × qM × List AV} {N : qN} (h1 : qargs D ([], [], []) ([], [], []) c.2.1 = some z) (h2 : qlrn z.1 z.2.1 c.2.2.1 = some w) (h3 : qrels w.1 w.2.2 c.2.2.2.1 = some N) (h4 : (Nat.ble (qwt z.2.2) nL && c.2.2.1.all (fun f => Nat.blt f.1 D.2.2 && Nat.blt f.2.1 10000) && qgo D c.2.2.2.2.2 xr tb MT B c.1.2.1 c.1.2.2 nL rk c z.2.2 w.2.2 T thr sps N.1.length (qlks z.2.2) cuts N.1.length none fu (N, (qloc 0 z.2.2, []), w.2.1) 0) = true)
    (h5 : qsegs D c.2.2.2.2.2 xr tb MT B c.1.2.1 c.1.2.2 nL rk c z.2.2 w.2.2 T thr sps N.1.length (qlks z.2.2) cuts fu = true) : qchk D xr tb MT B nL rk c T thr sps cuts fu = true := by
  unfold qchk
  rw [h1]
  simp only
  rw [h2]
  simp only
  rw [h3]
  simp only
  rw [Bool.and_eq_true]
  exact ⟨h4, h5⟩
def tC13 (w was : Nat) : AS := (([], [], []), ([(3, (1, 0, (was : Int))), (2, (1, 0, 25 * (w : Int))), (0, (3, 0, 0)), (1, (1, 0, (w : Int)))], [(1, 0, 0)]), ([], [], []))
def tC (w was v : Nat) : AS := (([(0, (v : Int))], [], []), ([(5, (0, 0, 0)), (4, (1, 0, (v : Int))), (3, (1, 0, (was : Int))), (2, (1, 0, 25 * (w : Int))), (0, (3, 0, 0)), (1, (1, 0, (w : Int)))], []), ([], [], []))
def tCs (w was : Nat) : List qCut := (13, tC13 w was, (100, [])) :: (List.range (was + 1)).map (fun v => (116, tC w was v, ((v : Int), [(-1, 0)])))
def tCw (w : Nat) : List qCut := (List.range 12).flatMap (tCs w)
def tn_0 : qCon := (mn_294.1, [(2, 0, 0), (0, 0, 0)], [], [], [(some (0, 0, 11), [], [], [], none)], [(14, 0, 6), (15, 0, 6), (16, 0, 6), (17, 0, 6), (18, 0, 6), (19, 0, 6), (20, 0, 6), (21, 0, 6), (22, 0, 6), (23, 1, 4), (31, 0, 1), (31, 13, 23)])
def tB_0 : List qCon := [mn_74, mn_88, mn_92, mn_118, mn_206, mn_207, mn_208, mn_209, mn_210, mn_211, mn_212, mn_213, mn_214, mn_215, mn_216, mn_217]
def tf_0 (k : qCut) : Bool := qpos k.2.1 k.2.2 && qrun mD tn_0.2.2.2.2.2 mXr mtb_RX12 mMT tB_0 tn_0.1.2.1 tn_0.1.2.2 6 1 tn_0 [(3, 0, 0), (1, 0, 0)] [] pg_X12_turnsBack [] [(12, 3), (113, 4)] (qgo mD tn_0.2.2.2.2.2 mXr mtb_RX12 mMT tB_0 tn_0.1.2.1 tn_0.1.2.2 6 1 tn_0 [(3, 0, 0), (1, 0, 0)] [] pg_X12_turnsBack [] [(12, 3), (113, 4)] 0 [] (tCw 0) k.2.1.1.1.length (some k.2.2) 3000) k.2.1 k.1
theorem t_0_0 : (tCs 0 0).all tf_0 = true := by decide +kernel
theorem t_0_1 : (tCs 0 1).all tf_0 = true := by decide +kernel
theorem t_0_2 : (tCs 0 2).all tf_0 = true := by decide +kernel
theorem t_0_3 : (tCs 0 3).all tf_0 = true := by decide +kernel
theorem t_0_4 : (tCs 0 4).all tf_0 = true := by decide +kernel
theorem t_0_5 : (tCs 0 5).all tf_0 = true := by decide +kernel
theorem t_0_6 : (tCs 0 6).all tf_0 = true := by decide +kernel
theorem t_0_7 : (tCs 0 7).all tf_0 = true := by decide +kernel
theorem t_0_8 : (tCs 0 8).all tf_0 = true := by decide +kernel
theorem t_0_9 : (tCs 0 9).all tf_0 = true := by decide +kernel
theorem t_0_10 : (tCs 0 10).all tf_0 = true := by decide +kernel
theorem t_0_11 : (tCs 0 11).all tf_0 = true := by decide +kernel
def tn_1 : qCon := (mn_294.1, [(2, 0, 0), (0, 1, 1)], [], [], [(some (0, 0, 11), [], [], [], none)], [(14, 0, 6), (15, 0, 6), (16, 0, 6), (17, 0, 6), (18, 0, 6), (19, 0, 6), (20, 0, 6), (21, 0, 6), (22, 0, 6), (23, 1, 4), (31, 25, 26), (31, 38, 48)])
def tB_1 : List qCon := [mn_75, mn_88, mn_92, mn_132, mn_206, mn_207, mn_208, mn_209, mn_210, mn_211, mn_212, mn_213, mn_214, mn_215, mn_216, mn_217]
def tf_1 (k : qCut) : Bool := qpos k.2.1 k.2.2 && qrun mD tn_1.2.2.2.2.2 mXr mtb_RX12 mMT tB_1 tn_1.1.2.1 tn_1.1.2.2 6 1 tn_1 [(3, 0, 0), (1, 0, 1)] [] pg_X12_turnsBack [] [(12, 3), (113, 4)] (qgo mD tn_1.2.2.2.2.2 mXr mtb_RX12 mMT tB_1 tn_1.1.2.1 tn_1.1.2.2 6 1 tn_1 [(3, 0, 0), (1, 0, 1)] [] pg_X12_turnsBack [] [(12, 3), (113, 4)] 0 [] (tCw 1) k.2.1.1.1.length (some k.2.2) 3000) k.2.1 k.1
theorem t_1_0 : (tCs 1 0).all tf_1 = true := by decide +kernel
theorem t_1_1 : (tCs 1 1).all tf_1 = true := by decide +kernel
theorem t_1_2 : (tCs 1 2).all tf_1 = true := by decide +kernel
theorem t_1_3 : (tCs 1 3).all tf_1 = true := by decide +kernel
theorem t_1_4 : (tCs 1 4).all tf_1 = true := by decide +kernel
theorem t_1_5 : (tCs 1 5).all tf_1 = true := by decide +kernel
theorem t_1_6 : (tCs 1 6).all tf_1 = true := by decide +kernel
theorem t_1_7 : (tCs 1 7).all tf_1 = true := by decide +kernel
theorem t_1_8 : (tCs 1 8).all tf_1 = true := by decide +kernel
theorem t_1_9 : (tCs 1 9).all tf_1 = true := by decide +kernel
theorem t_1_10 : (tCs 1 10).all tf_1 = true := by decide +kernel
theorem t_1_11 : (tCs 1 11).all tf_1 = true := by decide +kernel
def tn_2 : qCon := (mn_294.1, [(2, 0, 0), (0, 2, 2)], [], [], [(some (0, 0, 11), [], [], [], none)], [(14, 0, 6), (15, 0, 6), (16, 0, 6), (17, 0, 6), (18, 0, 6), (19, 0, 6), (20, 0, 6), (21, 0, 6), (22, 0, 6), (23, 1, 4), (31, 50, 51), (31, 63, 73)])
def tB_2 : List qCon := [mn_76, mn_88, mn_92, mn_146, mn_206, mn_207, mn_208, mn_209, mn_210, mn_211, mn_212, mn_213, mn_214, mn_215, mn_216, mn_217]
def tf_2 (k : qCut) : Bool := qpos k.2.1 k.2.2 && qrun mD tn_2.2.2.2.2.2 mXr mtb_RX12 mMT tB_2 tn_2.1.2.1 tn_2.1.2.2 6 1 tn_2 [(3, 0, 0), (1, 0, 2)] [] pg_X12_turnsBack [] [(12, 3), (113, 4)] (qgo mD tn_2.2.2.2.2.2 mXr mtb_RX12 mMT tB_2 tn_2.1.2.1 tn_2.1.2.2 6 1 tn_2 [(3, 0, 0), (1, 0, 2)] [] pg_X12_turnsBack [] [(12, 3), (113, 4)] 0 [] (tCw 2) k.2.1.1.1.length (some k.2.2) 3000) k.2.1 k.1
theorem t_2_0 : (tCs 2 0).all tf_2 = true := by decide +kernel
theorem t_2_1 : (tCs 2 1).all tf_2 = true := by decide +kernel
theorem t_2_2 : (tCs 2 2).all tf_2 = true := by decide +kernel
theorem t_2_3 : (tCs 2 3).all tf_2 = true := by decide +kernel
theorem t_2_4 : (tCs 2 4).all tf_2 = true := by decide +kernel
theorem t_2_5 : (tCs 2 5).all tf_2 = true := by decide +kernel
theorem t_2_6 : (tCs 2 6).all tf_2 = true := by decide +kernel
theorem t_2_7 : (tCs 2 7).all tf_2 = true := by decide +kernel
theorem t_2_8 : (tCs 2 8).all tf_2 = true := by decide +kernel
theorem t_2_9 : (tCs 2 9).all tf_2 = true := by decide +kernel
theorem t_2_10 : (tCs 2 10).all tf_2 = true := by decide +kernel
theorem t_2_11 : (tCs 2 11).all tf_2 = true := by decide +kernel
def tn_3 : qCon := (mn_294.1, [(2, 0, 0), (0, 3, 3)], [], [], [(some (0, 0, 11), [], [], [], none)], [(14, 0, 6), (15, 0, 6), (16, 0, 6), (17, 0, 6), (18, 0, 6), (19, 0, 6), (20, 0, 6), (21, 0, 6), (22, 0, 6), (23, 1, 4), (31, 75, 76), (31, 88, 98)])
def tB_3 : List qCon := [mn_77, mn_88, mn_92, mn_160, mn_206, mn_207, mn_208, mn_209, mn_210, mn_211, mn_212, mn_213, mn_214, mn_215, mn_216, mn_217]
def tf_3 (k : qCut) : Bool := qpos k.2.1 k.2.2 && qrun mD tn_3.2.2.2.2.2 mXr mtb_RX12 mMT tB_3 tn_3.1.2.1 tn_3.1.2.2 6 1 tn_3 [(3, 0, 0), (1, 0, 3)] [] pg_X12_turnsBack [] [(12, 3), (113, 4)] (qgo mD tn_3.2.2.2.2.2 mXr mtb_RX12 mMT tB_3 tn_3.1.2.1 tn_3.1.2.2 6 1 tn_3 [(3, 0, 0), (1, 0, 3)] [] pg_X12_turnsBack [] [(12, 3), (113, 4)] 0 [] (tCw 3) k.2.1.1.1.length (some k.2.2) 3000) k.2.1 k.1
theorem t_3_0 : (tCs 3 0).all tf_3 = true := by decide +kernel
theorem t_3_1 : (tCs 3 1).all tf_3 = true := by decide +kernel
theorem t_3_2 : (tCs 3 2).all tf_3 = true := by decide +kernel
theorem t_3_3 : (tCs 3 3).all tf_3 = true := by decide +kernel
theorem t_3_4 : (tCs 3 4).all tf_3 = true := by decide +kernel
theorem t_3_5 : (tCs 3 5).all tf_3 = true := by decide +kernel
theorem t_3_6 : (tCs 3 6).all tf_3 = true := by decide +kernel
theorem t_3_7 : (tCs 3 7).all tf_3 = true := by decide +kernel
theorem t_3_8 : (tCs 3 8).all tf_3 = true := by decide +kernel
theorem t_3_9 : (tCs 3 9).all tf_3 = true := by decide +kernel
theorem t_3_10 : (tCs 3 10).all tf_3 = true := by decide +kernel
theorem t_3_11 : (tCs 3 11).all tf_3 = true := by decide +kernel
def tn_4 : qCon := (mn_294.1, [(2, 0, 0), (0, 4, 4)], [], [], [(some (0, 0, 11), [], [], [], none)], [(14, 0, 6), (15, 0, 6), (16, 0, 6), (17, 0, 6), (18, 0, 6), (19, 0, 6), (20, 0, 6), (21, 0, 6), (22, 0, 6), (23, 1, 4), (31, 100, 101), (31, 113, 123)])
def tB_4 : List qCon := [mn_78, mn_88, mn_92, mn_174, mn_206, mn_207, mn_208, mn_209, mn_210, mn_211, mn_212, mn_213, mn_214, mn_215, mn_216, mn_217]
def tf_4 (k : qCut) : Bool := qpos k.2.1 k.2.2 && qrun mD tn_4.2.2.2.2.2 mXr mtb_RX12 mMT tB_4 tn_4.1.2.1 tn_4.1.2.2 6 1 tn_4 [(3, 0, 0), (1, 0, 4)] [] pg_X12_turnsBack [] [(12, 3), (113, 4)] (qgo mD tn_4.2.2.2.2.2 mXr mtb_RX12 mMT tB_4 tn_4.1.2.1 tn_4.1.2.2 6 1 tn_4 [(3, 0, 0), (1, 0, 4)] [] pg_X12_turnsBack [] [(12, 3), (113, 4)] 0 [] (tCw 4) k.2.1.1.1.length (some k.2.2) 3000) k.2.1 k.1
theorem t_4_0 : (tCs 4 0).all tf_4 = true := by decide +kernel
theorem t_4_1 : (tCs 4 1).all tf_4 = true := by decide +kernel
theorem t_4_2 : (tCs 4 2).all tf_4 = true := by decide +kernel
theorem t_4_3 : (tCs 4 3).all tf_4 = true := by decide +kernel
theorem t_4_4 : (tCs 4 4).all tf_4 = true := by decide +kernel
theorem t_4_5 : (tCs 4 5).all tf_4 = true := by decide +kernel
theorem t_4_6 : (tCs 4 6).all tf_4 = true := by decide +kernel
theorem t_4_7 : (tCs 4 7).all tf_4 = true := by decide +kernel
theorem t_4_8 : (tCs 4 8).all tf_4 = true := by decide +kernel
theorem t_4_9 : (tCs 4 9).all tf_4 = true := by decide +kernel
theorem t_4_10 : (tCs 4 10).all tf_4 = true := by decide +kernel
theorem t_4_11 : (tCs 4 11).all tf_4 = true := by decide +kernel

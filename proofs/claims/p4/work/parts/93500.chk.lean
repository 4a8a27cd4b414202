/-! a check in pieces: the way in, and each cut by itself -/
def qchkA (D : qWd) (xr : List Nat) (tb : qTb) (MT : List qMt) (B : List qCon) (nL rk : Nat) (c : qCon) (T : qPg) (thr : List Nat) (sps : List (Nat × Nat)) (cuts : List qCut) (fu : Nat) : Bool :=
  match qargs D ([], [], []) ([], [], []) c.2.1 with
  | some z => (match qlrn z.1 z.2.1 c.2.2.1 with
    | some w => (match qrels w.1 w.2.2 c.2.2.2.1 with
      | some N => Nat.ble (qwt z.2.2) nL && c.2.2.1.all (fun f => Nat.blt f.1 D.2.2 && Nat.blt f.2.1 10000) &&
          qgo D c.2.2.2.2.2 xr tb MT B c.1.2.1 c.1.2.2 nL rk c z.2.2 w.2.2 T thr sps N.1.length (qlks z.2.2) cuts N.1.length none fu (N, (qloc 0 z.2.2, []), w.2.1) 0
      | none => false)
    | none => false)
  | none => false
def qchkB (D : qWd) (xr : List Nat) (tb : qTb) (MT : List qMt) (B : List qCon) (nL rk : Nat) (c : qCon) (T : qPg) (thr : List Nat) (sps : List (Nat × Nat)) (cuts : List qCut) (fu : Nat) (k : qCut) : Bool :=
  match qargs D ([], [], []) ([], [], []) c.2.1 with
  | some z => (match qlrn z.1 z.2.1 c.2.2.1 with
    | some w => (match qrels w.1 w.2.2 c.2.2.2.1 with
      | some N => qpos k.2.1 k.2.2 && qrun D c.2.2.2.2.2 xr tb MT B c.1.2.1 c.1.2.2 nL rk c z.2.2 w.2.2 T thr sps (qgo D c.2.2.2.2.2 xr tb MT B c.1.2.1 c.1.2.2 nL rk c z.2.2 w.2.2 T thr sps N.1.length (qlks z.2.2) cuts k.2.1.1.1.length (some k.2.2) fu) k.2.1 k.1
      | none => false)
    | none => false)
  | none => false
theorem q_chkAB {D : qWd} {xr : List Nat} {tb : qTb} {MT : List qMt} {B : List qCon} {nL rk : Nat} {c : qCon} {T : qPg} {thr : List Nat} {sps : List (Nat × Nat)} {cuts : List qCut} {fu : Nat} (h1 : qchkA D xr tb MT B nL rk c T thr sps cuts fu = true) (h2 : ∀ k ∈ cuts, qchkB D xr tb MT B nL rk c T thr sps cuts fu k = true) : qchk D xr tb MT B nL rk c T thr sps cuts fu = true := by
  unfold qchkA at h1
  unfold qchk
  unfold qchkB at h2
  split at h1
  · rename_i z hz
    split at h1
    · rename_i w hw
      split at h1
      · rename_i N hN
        simp only [hz, hw, hN] at h2 ⊢
        rw [h1, Bool.true_and]
        unfold qsegs
        rw [List.all_eq_true]
        intro k hk
        exact h2 k hk
      · cases h1
    · cases h1
  · cases h1

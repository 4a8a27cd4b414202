theorem ne_i {v c : Int32} {k : Int} (h : ¬ v = c) (e : c.toInt = k) : ¬ v.toInt = k := fun h9 => h (Int32.toInt_inj.mp (h9.trans e.symm))
theorem tw_lt {f : Nat → Int32} {n p : Nat} : tw f n p < 26 := by
  unfold tw tw1
  split
  · split
    · split
      · exact wof_lt _
      · decide
    · decide
  · decide
/-- the words lie apart -/
theorem k_weq {γ : kΓ} {p : Program} {s : State} {m : MethodId} {args : Array Value} {c : Code} {cc : ByteArray} {nL : Nat} {own : String} {A : Nat → Prop} (hC : kC γ p s m args c cc nL own A) {i j : Nat} (hi : i < 26) (hj : j < 26) : (some (γ.2.2.2.2 i) = some (γ.2.2.2.2 j)) ↔ i = j := by
  refine ⟨fun h => ?_, fun h => by rw [h]⟩
  have h := Option.some.inj h
  have hz := k_zw hC
  have e1 : kWl.getD i 0 = kWl.getD j 0 := by
    obtain ⟨cf, k, fi, f, cell, h1, h2, h3, h4, h5, h6⟩ := hz.2.1 i hi
    obtain ⟨cf', k', fi', f', cell', g1, g2, g3, g4, g5, g6⟩ := hz.2.1 j hj
    rw [h1] at g1
    cases g1
    rw [h, g3] at h3
    cases h3
    rw [h5] at g5
    exact Value.long.inj (Option.some.inj g5)
  have e2 : kWm.getD i 0 = kWm.getD j 0 := by
    obtain ⟨cf, k, fi, f, cell, h1, h2, h3, h4, h5, h6⟩ := hz.2.2.1 i hi
    obtain ⟨cf', k', fi', f', cell', g1, g2, g3, g4, g5, g6⟩ := hz.2.2.1 j hj
    rw [h1] at g1
    cases g1
    rw [h, g3] at h3
    cases h3
    rw [h5] at g5
    exact Value.int.inj (Option.some.inj g5)
  exact (by decide +kernel : ∀ i : Nat, i < 26 → ∀ j : Nat, j < 26 → kWl.getD i 0 = kWl.getD j 0 → kWm.getD i 0 = kWm.getD j 0 → i = j) i hi j hj e1 e2
abbrev rRS := Int32 × Nat × Int32 × Int64
def av (f : Nat → Int32) (n : Nat) (rs : rRS) : rRS := (rs.1, te f n rs.2.1, tn f n (te f n rs.2.1) rs.2.2.1, tl f n (te f n rs.2.1) rs.2.2.2)
theorem c_av (γ : kΓ) (l : Launch) (h : Nat) (hg : Nat) (n : Nat) (rs : rRS) (f : Nat → Int32) (hn : n ≤ 1000) (hok : ∀ k, k < n → kok (f k) = true) : kM γ l yX8_advance cX8_advance 2 none ({ frames := 1, cells := 0, slots := 0, locals := 40 } : Room) [.ref h] (tWd γ h hg n f (rs.2.1) (rs.2.2.1) (rs.2.2.2)) (fun r w1 => r = none ∧ w1 = (tWd γ h hg n f ((av f n rs).2.1) ((av f n rs).2.2.1) ((av f n rs).2.2.2))) :=
  c_X8_advance γ l h hg (nI (ts f n rs.2.1)) (tk f n rs.2.1) rs.2.2.1 rs.2.2.2 (γ.2.2.2.2 (tw f n rs.2.1)) n (te f n rs.2.1) f hn te_le hok

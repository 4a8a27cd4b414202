/-! judged, other: whatever the number of lines -/
def jM : qMods := [(0, 0, 0), (0, 50, 54), (14, 0, 6), (15, 0, 6), (16, 0, 6), (17, 0, 6), (18, 0, 6), (19, 0, 6), (20, 0, 6), (21, 0, 6), (22, 0, 6), (23, 1, 4), (31, 0, 132), (32, 0, 132)]
def jC (mt n : Nat) : qCon := ((mt, 7, 164), [(2, 0, 0), (0, (-2147483648), 2147483647)], (24, 0, (n : Int), (n : Int)) :: (List.range n).map (fun j => (26, j, 0, 4)), [], [(some (0, (-2147483648), 2147483647), [], [], [], none)], jM)
def jG (mt : Nat) : qCon := ((mt, 7, 164), [(2, 0, 0), (0, (-2147483648), 2147483647)], [], [], [(some (0, (-2147483648), 2147483647), [], [], [], none)], jM)
theorem m_jud {γ : kΓ} {l : Launch} {mt : Nat} {y : qMt} (hy : mMT[mt]? = some y) (h : ∀ n, n ≤ 40 → qSem γ l mD mX mMT (jC mt n)) : qSem γ l mD mX mMT (jG mt) := by
  refine ⟨y, hy, fun adr ws av hp => ?_⟩
  obtain ⟨x, x1, x2, x3⟩ := m_ln hp.1 (r := 0) (by decide)
  obtain ⟨n, hn⟩ := Int.eq_ofNat_of_zero_le x2
  obtain ⟨y', hy', hs⟩ := h n (by omega)
  have hy' : mMT[mt]? = some y' := hy'
  rw [hy] at hy'
  cases hy'
  refine k_imp (hs adr ws av ⟨hp.1, hp.2.1, hp.2.2.1, fun f hf => ?_, fun f hf => (by cases hf)⟩) (fun r w1 hq => ?_)
  · rcases List.mem_cons.mp hf with h | hf
    · subst h
      exact ⟨x.toInt, x1, ⟨by show (n : Int) ≤ _; omega, by show _ ≤ (n : Int); omega⟩⟩
    · obtain ⟨j, hj, rfl⟩ := List.mem_map.mp hf
      have hj := List.mem_range.mp hj
      obtain ⟨z, z1, z2, z3⟩ := m_la hp.1 (i := j) (by omega)
      have h9 := hp.2.1.2 0 (by decide) j (by rw [m_gv x1]; omega)
      rw [show 40 * 0 + j = j by omega, m_gv z1] at h9
      exact ⟨z.toInt, z1, ⟨h9, z3⟩⟩
  · obtain ⟨q1, q2, q3, t, t1, t2⟩ := hq
    have t1 := List.mem_singleton.mp t1
    subst t1
    exact ⟨q1, q2, q3, _, .head _, t2.1, fun f hf => (by cases hf), fun f hf => (by cases hf), fun f hf => (by cases hf), fun q hq => (by cases hq)⟩
theorem mj_judged_0 (γ : kΓ) (l : Launch) : qSem γ l mD mX mMT (jC 78 0) := q_sem (xr := mXr) (tb := mtb_RX12) (B := [mn_344, mn_345]) (rk := 1) (T := pg_X12_judged) (sps := []) (cuts := []) (fu := 3000) (y := (yX12_judged, cX12_judged, 2, (some FieldType.int))) mDok rfl (by decide) (.inr (.inl ⟨rfl, rfl⟩)) (m_xok) mtk_RX12 (q_f1 (m_up rfl (ms_344 γ l)) (q_f1 (m_up rfl (ms_345 γ l)) q_f0)) pk_X12_judged (by decide +kernel)
theorem mj_judged_1 : jC 78 1 = mn_348 := rfl
theorem mj_judged_2 : jC 78 2 = mn_370 := rfl
theorem mj_judged_3 : jC 78 3 = mn_392 := rfl
theorem mj_judged_4 : jC 78 4 = mn_414 := rfl
theorem mj_judged_5 : jC 78 5 = mn_418 := rfl
theorem mj_judged_6 : jC 78 6 = mn_420 := rfl
theorem mj_judged_7 : jC 78 7 = mn_422 := rfl
theorem mj_judged_8 : jC 78 8 = mn_424 := rfl
theorem mj_judged_9 : jC 78 9 = mn_426 := rfl
theorem mj_judged_10 : jC 78 10 = mn_350 := rfl
theorem mj_judged_11 : jC 78 11 = mn_352 := rfl
theorem mj_judged_12 : jC 78 12 = mn_354 := rfl
theorem mj_judged_13 : jC 78 13 = mn_356 := rfl
theorem mj_judged_14 : jC 78 14 = mn_358 := rfl
theorem mj_judged_15 : jC 78 15 = mn_360 := rfl
theorem mj_judged_16 : jC 78 16 = mn_362 := rfl
theorem mj_judged_17 : jC 78 17 = mn_364 := rfl
theorem mj_judged_18 : jC 78 18 = mn_366 := rfl
theorem mj_judged_19 : jC 78 19 = mn_368 := rfl
theorem mj_judged_20 : jC 78 20 = mn_372 := rfl
theorem mj_judged_21 : jC 78 21 = mn_374 := rfl
theorem mj_judged_22 : jC 78 22 = mn_376 := rfl
theorem mj_judged_23 : jC 78 23 = mn_378 := rfl
theorem mj_judged_24 : jC 78 24 = mn_380 := rfl
theorem mj_judged_25 : jC 78 25 = mn_382 := rfl
theorem mj_judged_26 : jC 78 26 = mn_384 := rfl
theorem mj_judged_27 : jC 78 27 = mn_386 := rfl
theorem mj_judged_28 : jC 78 28 = mn_388 := rfl
theorem mj_judged_29 : jC 78 29 = mn_390 := rfl
theorem mj_judged_30 : jC 78 30 = mn_394 := rfl
theorem mj_judged_31 : jC 78 31 = mn_396 := rfl
theorem mj_judged_32 : jC 78 32 = mn_398 := rfl
theorem mj_judged_33 : jC 78 33 = mn_400 := rfl
theorem mj_judged_34 : jC 78 34 = mn_402 := rfl
theorem mj_judged_35 : jC 78 35 = mn_404 := rfl
theorem mj_judged_36 : jC 78 36 = mn_406 := rfl
theorem mj_judged_37 : jC 78 37 = mn_408 := rfl
theorem mj_judged_38 : jC 78 38 = mn_410 := rfl
theorem mj_judged_39 : jC 78 39 = mn_412 := rfl
theorem mj_judged_40 : jC 78 40 = mn_416 := rfl
theorem mj_judged (γ : kΓ) (l : Launch) (n : Nat) (h : n ≤ 40) : qSem γ l mD mX mMT (jC 78 n) := by
  have : n = 0 ∨ n = 1 ∨ n = 2 ∨ n = 3 ∨ n = 4 ∨ n = 5 ∨ n = 6 ∨ n = 7 ∨ n = 8 ∨ n = 9 ∨ n = 10 ∨ n = 11 ∨ n = 12 ∨ n = 13 ∨ n = 14 ∨ n = 15 ∨ n = 16 ∨ n = 17 ∨ n = 18 ∨ n = 19 ∨ n = 20 ∨ n = 21 ∨ n = 22 ∨ n = 23 ∨ n = 24 ∨ n = 25 ∨ n = 26 ∨ n = 27 ∨ n = 28 ∨ n = 29 ∨ n = 30 ∨ n = 31 ∨ n = 32 ∨ n = 33 ∨ n = 34 ∨ n = 35 ∨ n = 36 ∨ n = 37 ∨ n = 38 ∨ n = 39 ∨ n = 40 := by omega
  rcases this with rfl | rfl | rfl | rfl | rfl | rfl | rfl | rfl | rfl | rfl | rfl | rfl | rfl | rfl | rfl | rfl | rfl | rfl | rfl | rfl | rfl | rfl | rfl | rfl | rfl | rfl | rfl | rfl | rfl | rfl | rfl | rfl | rfl | rfl | rfl | rfl | rfl | rfl | rfl | rfl | rfl
  · exact mj_judged_0 γ l
  · rw [mj_judged_1]; exact mx_348 γ l
  · rw [mj_judged_2]; exact mx_370 γ l
  · rw [mj_judged_3]; exact mx_392 γ l
  · rw [mj_judged_4]; exact mx_414 γ l
  · rw [mj_judged_5]; exact mx_418 γ l
  · rw [mj_judged_6]; exact mx_420 γ l
  · rw [mj_judged_7]; exact mx_422 γ l
  · rw [mj_judged_8]; exact mx_424 γ l
  · rw [mj_judged_9]; exact mx_426 γ l
  · rw [mj_judged_10]; exact mx_350 γ l
  · rw [mj_judged_11]; exact mx_352 γ l
  · rw [mj_judged_12]; exact mx_354 γ l
  · rw [mj_judged_13]; exact mx_356 γ l
  · rw [mj_judged_14]; exact mx_358 γ l
  · rw [mj_judged_15]; exact mx_360 γ l
  · rw [mj_judged_16]; exact mx_362 γ l
  · rw [mj_judged_17]; exact mx_364 γ l
  · rw [mj_judged_18]; exact mx_366 γ l
  · rw [mj_judged_19]; exact mx_368 γ l
  · rw [mj_judged_20]; exact mx_372 γ l
  · rw [mj_judged_21]; exact mx_374 γ l
  · rw [mj_judged_22]; exact mx_376 γ l
  · rw [mj_judged_23]; exact mx_378 γ l
  · rw [mj_judged_24]; exact mx_380 γ l
  · rw [mj_judged_25]; exact mx_382 γ l
  · rw [mj_judged_26]; exact mx_384 γ l
  · rw [mj_judged_27]; exact mx_386 γ l
  · rw [mj_judged_28]; exact mx_388 γ l
  · rw [mj_judged_29]; exact mx_390 γ l
  · rw [mj_judged_30]; exact mx_394 γ l
  · rw [mj_judged_31]; exact mx_396 γ l
  · rw [mj_judged_32]; exact mx_398 γ l
  · rw [mj_judged_33]; exact mx_400 γ l
  · rw [mj_judged_34]; exact mx_402 γ l
  · rw [mj_judged_35]; exact mx_404 γ l
  · rw [mj_judged_36]; exact mx_406 γ l
  · rw [mj_judged_37]; exact mx_408 γ l
  · rw [mj_judged_38]; exact mx_410 γ l
  · rw [mj_judged_39]; exact mx_412 γ l
  · rw [mj_judged_40]; exact mx_416 γ l
theorem mg_judged (γ : kΓ) (l : Launch) : qSem γ l mD mX mMT (jG 78) := m_jud rfl (mj_judged γ l)
theorem mj_other_0 (γ : kΓ) (l : Launch) : qSem γ l mD mX mMT (jC 88 0) := q_sem (xr := mXr) (tb := mtb_RX12) (B := [mn_344, mn_470]) (rk := 1) (T := pg_X12_other) (sps := []) (cuts := []) (fu := 3000) (y := (yX12_other, cX12_other, 2, (some FieldType.int))) mDok rfl (by decide) (.inr (.inl ⟨rfl, rfl⟩)) (m_xok) mtk_RX12 (q_f1 (m_up rfl (ms_344 γ l)) (q_f1 (m_up rfl (ms_470 γ l)) q_f0)) pk_X12_other (by decide +kernel)
theorem mj_other_1 : jC 88 1 = mn_472 := rfl
theorem mj_other_2 : jC 88 2 = mn_483 := rfl
theorem mj_other_3 : jC 88 3 = mn_494 := rfl
theorem mj_other_4 : jC 88 4 = mn_505 := rfl
theorem mj_other_5 : jC 88 5 = mn_507 := rfl
theorem mj_other_6 : jC 88 6 = mn_508 := rfl
theorem mj_other_7 : jC 88 7 = mn_509 := rfl
theorem mj_other_8 : jC 88 8 = mn_510 := rfl
theorem mj_other_9 : jC 88 9 = mn_511 := rfl
theorem mj_other_10 : jC 88 10 = mn_473 := rfl
theorem mj_other_11 : jC 88 11 = mn_474 := rfl
theorem mj_other_12 : jC 88 12 = mn_475 := rfl
theorem mj_other_13 : jC 88 13 = mn_476 := rfl
theorem mj_other_14 : jC 88 14 = mn_477 := rfl
theorem mj_other_15 : jC 88 15 = mn_478 := rfl
theorem mj_other_16 : jC 88 16 = mn_479 := rfl
theorem mj_other_17 : jC 88 17 = mn_480 := rfl
theorem mj_other_18 : jC 88 18 = mn_481 := rfl
theorem mj_other_19 : jC 88 19 = mn_482 := rfl
theorem mj_other_20 : jC 88 20 = mn_484 := rfl
theorem mj_other_21 : jC 88 21 = mn_485 := rfl
theorem mj_other_22 : jC 88 22 = mn_486 := rfl
theorem mj_other_23 : jC 88 23 = mn_487 := rfl
theorem mj_other_24 : jC 88 24 = mn_488 := rfl
theorem mj_other_25 : jC 88 25 = mn_489 := rfl
theorem mj_other_26 : jC 88 26 = mn_490 := rfl
theorem mj_other_27 : jC 88 27 = mn_491 := rfl
theorem mj_other_28 : jC 88 28 = mn_492 := rfl
theorem mj_other_29 : jC 88 29 = mn_493 := rfl
theorem mj_other_30 : jC 88 30 = mn_495 := rfl
theorem mj_other_31 : jC 88 31 = mn_496 := rfl
theorem mj_other_32 : jC 88 32 = mn_497 := rfl
theorem mj_other_33 : jC 88 33 = mn_498 := rfl
theorem mj_other_34 : jC 88 34 = mn_499 := rfl
theorem mj_other_35 : jC 88 35 = mn_500 := rfl
theorem mj_other_36 : jC 88 36 = mn_501 := rfl
theorem mj_other_37 : jC 88 37 = mn_502 := rfl
theorem mj_other_38 : jC 88 38 = mn_503 := rfl
theorem mj_other_39 : jC 88 39 = mn_504 := rfl
theorem mj_other_40 : jC 88 40 = mn_506 := rfl
theorem mj_other (γ : kΓ) (l : Launch) (n : Nat) (h : n ≤ 40) : qSem γ l mD mX mMT (jC 88 n) := by
  have : n = 0 ∨ n = 1 ∨ n = 2 ∨ n = 3 ∨ n = 4 ∨ n = 5 ∨ n = 6 ∨ n = 7 ∨ n = 8 ∨ n = 9 ∨ n = 10 ∨ n = 11 ∨ n = 12 ∨ n = 13 ∨ n = 14 ∨ n = 15 ∨ n = 16 ∨ n = 17 ∨ n = 18 ∨ n = 19 ∨ n = 20 ∨ n = 21 ∨ n = 22 ∨ n = 23 ∨ n = 24 ∨ n = 25 ∨ n = 26 ∨ n = 27 ∨ n = 28 ∨ n = 29 ∨ n = 30 ∨ n = 31 ∨ n = 32 ∨ n = 33 ∨ n = 34 ∨ n = 35 ∨ n = 36 ∨ n = 37 ∨ n = 38 ∨ n = 39 ∨ n = 40 := by omega
  rcases this with rfl | rfl | rfl | rfl | rfl | rfl | rfl | rfl | rfl | rfl | rfl | rfl | rfl | rfl | rfl | rfl | rfl | rfl | rfl | rfl | rfl | rfl | rfl | rfl | rfl | rfl | rfl | rfl | rfl | rfl | rfl | rfl | rfl | rfl | rfl | rfl | rfl | rfl | rfl | rfl | rfl
  · exact mj_other_0 γ l
  · rw [mj_other_1]; exact mx_472 γ l
  · rw [mj_other_2]; exact mx_483 γ l
  · rw [mj_other_3]; exact mx_494 γ l
  · rw [mj_other_4]; exact mx_505 γ l
  · rw [mj_other_5]; exact mx_507 γ l
  · rw [mj_other_6]; exact mx_508 γ l
  · rw [mj_other_7]; exact mx_509 γ l
  · rw [mj_other_8]; exact mx_510 γ l
  · rw [mj_other_9]; exact mx_511 γ l
  · rw [mj_other_10]; exact mx_473 γ l
  · rw [mj_other_11]; exact mx_474 γ l
  · rw [mj_other_12]; exact mx_475 γ l
  · rw [mj_other_13]; exact mx_476 γ l
  · rw [mj_other_14]; exact mx_477 γ l
  · rw [mj_other_15]; exact mx_478 γ l
  · rw [mj_other_16]; exact mx_479 γ l
  · rw [mj_other_17]; exact mx_480 γ l
  · rw [mj_other_18]; exact mx_481 γ l
  · rw [mj_other_19]; exact mx_482 γ l
  · rw [mj_other_20]; exact mx_484 γ l
  · rw [mj_other_21]; exact mx_485 γ l
  · rw [mj_other_22]; exact mx_486 γ l
  · rw [mj_other_23]; exact mx_487 γ l
  · rw [mj_other_24]; exact mx_488 γ l
  · rw [mj_other_25]; exact mx_489 γ l
  · rw [mj_other_26]; exact mx_490 γ l
  · rw [mj_other_27]; exact mx_491 γ l
  · rw [mj_other_28]; exact mx_492 γ l
  · rw [mj_other_29]; exact mx_493 γ l
  · rw [mj_other_30]; exact mx_495 γ l
  · rw [mj_other_31]; exact mx_496 γ l
  · rw [mj_other_32]; exact mx_497 γ l
  · rw [mj_other_33]; exact mx_498 γ l
  · rw [mj_other_34]; exact mx_499 γ l
  · rw [mj_other_35]; exact mx_500 γ l
  · rw [mj_other_36]; exact mx_501 γ l
  · rw [mj_other_37]; exact mx_502 γ l
  · rw [mj_other_38]; exact mx_503 γ l
  · rw [mj_other_39]; exact mx_504 γ l
  · rw [mj_other_40]; exact mx_506 γ l
theorem mg_other (γ : kΓ) (l : Launch) : qSem γ l mD mX mMT (jG 88) := m_jud rfl (mj_other γ l)

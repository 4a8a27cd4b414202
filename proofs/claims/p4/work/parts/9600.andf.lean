/-- two contracts, and what lies outside the second one's cells: it holds behind the call as before it -/
theorem k_andF {γ : kΓ} {l : Launch} {y : MethodName} {cc : ByteArray} {maxL : Nat} {ret : Option FieldType} {r1 r2 : Room} {av : List Value} {ws wc : va_W} {post1 post2 : Option Value → va_W → Prop} (h1 : kM γ l y cc maxL ret r1 av ws post1) (h2 : kM γ l y cc maxL ret r2 av wc post2)
    (hr : r2.frames ≤ r1.frames ∧ r2.locals ≤ r1.locals ∧ r2.cells ≤ r1.cells ∧ r2.slots ≤ r1.slots) (is : List Nat) (hn : va_nd is = true) (hs : is.map (fun i => ws[i]?) = wc.map some) :
    kM γ l y cc maxL ret r1 av ws (fun r w1 => post1 r w1 ∧ ∃ (H : Heap) (w2 : va_W), post2 r w2 ∧ va_P γ.1 vwCl w1 H ∧ va_P γ.1 vwCl w2 H ∧ ∀ (q : Nat) (c : Nat × va_E), ws[q]? = some c → ¬ q ∈ is → va_at γ.1 vwCl c H) := by
  intro sz p e ha hcs hk s m args below hfr happ hP hK
  obtain ⟨n, o, a1, a2, a3, a4⟩ := h1 sz p e ha hcs hk s m args below hfr happ hP hK
  obtain ⟨b1, b2, b3, b4, b5, b6, b7, b8⟩ := (Spec.appliesLoose_iff hfr).mp happ
  have hP2 : kP γ av wc sz args s := ⟨hP.1, hP.2.1, k_Psub hP.2.2.1 is hs, hP.2.2.2.1.sub is hn hs, hP.2.2.2.2⟩
  obtain ⟨n', o', c1, c2, c3, c4⟩ := h2 sz p e ha hcs hk s m args below hfr ((Spec.appliesLoose_iff hfr).mpr ⟨b1, b2, b3, b4, b5, b6, k_room hr.1 hr.2.1 hr.2.2.1 hr.2.2.2 b7, b8⟩) hP2 hK
  obtain ⟨en, eo⟩ := the_end_unique (f := fun k => stepsAlone p.tables e k s) a1 a3 c1 c3
  subst en
  subst eo
  obtain ⟨⟨⟨r, w1, e1, e2, e3, e4⟩, e5⟩, e6⟩ := a4
  obtain ⟨⟨⟨r', w2, g1, g2, g3, g4⟩, g5⟩, g6⟩ := c4
  rw [e1] at g1
  cases g1
  refine ⟨n, o, a1, a2, a3, ⟨⟨r, w1, e1, ⟨e2, _, w2, g2, e3, g3, fun q c hq hni => ?_⟩, e3, e4⟩, e5⟩, e6⟩
  have h9 := hP.2.2.1 q c hq
  refine h9.kept (g5.2 c.1 h9.lt ?_)
  rintro (⟨k, ee, hk9⟩ | hsz)
  · have h8 : (is.map (fun i => ws[i]?))[k]? = some (some (c.1, ee)) := by rw [hs, List.getElem?_map, hk9]; rfl
    rw [List.getElem?_map, Option.map_eq_some_iff] at h8
    obtain ⟨i, hi1, hi2⟩ := h8
    have := hP.2.2.2.1.1 i q _ _ hi2 hq rfl
    subst this
    exact hni (List.mem_of_getElem? hi1)
  · have h7 := h9.lt
    have h6 := hP.2.1
    omega
/-- two contracts of one method: both pictures, and that within each the cells are different -/
theorem k_andD {γ : kΓ} {l : Launch} {y : MethodName} {cc : ByteArray} {maxL : Nat} {ret : Option FieldType} {r1 r2 : Room} {av : List Value} {ws wc : va_W} {post1 post2 : Option Value → va_W → Prop} (h1 : kM γ l y cc maxL ret r1 av ws post1) (h2 : kM γ l y cc maxL ret r2 av wc post2)
    (hr : r2.frames ≤ r1.frames ∧ r2.locals ≤ r1.locals ∧ r2.cells ≤ r1.cells ∧ r2.slots ≤ r1.slots) (is : List Nat) (hn : va_nd is = true) (hs : is.map (fun i => ws[i]?) = wc.map some) :
    kM γ l y cc maxL ret r1 av ws (fun r w1 => post1 r w1 ∧ ∃ (H : Heap) (w2 : va_W), post2 r w2 ∧ va_P γ.1 vwCl w1 H ∧ va_P γ.1 vwCl w2 H ∧ (∀ (i j : Nat) (c d : Nat × va_E), w1[i]? = some c → w1[j]? = some d → c.1 = d.1 → i = j) ∧ (∀ (i j : Nat) (c d : Nat × va_E), w2[i]? = some c → w2[j]? = some d → c.1 = d.1 → i = j)) := by
  intro sz p e ha hcs hk s m args below hfr happ hP hK
  obtain ⟨n, o, a1, a2, a3, a4⟩ := h1 sz p e ha hcs hk s m args below hfr happ hP hK
  obtain ⟨b1, b2, b3, b4, b5, b6, b7, b8⟩ := (Spec.appliesLoose_iff hfr).mp happ
  have hP2 : kP γ av wc sz args s := ⟨hP.1, hP.2.1, k_Psub hP.2.2.1 is hs, hP.2.2.2.1.sub is hn hs, hP.2.2.2.2⟩
  obtain ⟨n', o', c1, c2, c3, c4⟩ := h2 sz p e ha hcs hk s m args below hfr ((Spec.appliesLoose_iff hfr).mpr ⟨b1, b2, b3, b4, b5, b6, k_room hr.1 hr.2.1 hr.2.2.1 hr.2.2.2 b7, b8⟩) hP2 hK
  obtain ⟨en, eo⟩ := the_end_unique (f := fun k => stepsAlone p.tables e k s) a1 a3 c1 c3
  subst en
  subst eo
  obtain ⟨⟨⟨r, w1, e1, e2, e3, e4⟩, e5⟩, e6⟩ := a4
  obtain ⟨⟨⟨r', w2, g1, g2, g3, g4⟩, g5⟩, g6⟩ := c4
  rw [e1] at g1
  cases g1
  exact ⟨n, o, a1, a2, a3, ⟨⟨r, w1, e1, ⟨e2, _, w2, g2, e3, g3, e4.1, g4.1⟩, e3, e4⟩, e5⟩, e6⟩

/-! contracts carried on -/
theorem q_f0 {α : Type} {P : α → Prop} : ∀ x ∈ ([] : List α), P x := fun _ h => by cases h
theorem q_f1 {α : Type} {P : α → Prop} {a : α} {l : List α} (h : P a) (h2 : ∀ x ∈ l, P x) : ∀ x ∈ a :: l, P x := fun x hx => (List.mem_cons.mp hx).elim (fun e => e ▸ h) (h2 x)
theorem k_imp {γ : kΓ} {l : Launch} {y : MethodName} {cc : ByteArray} {maxL : Nat} {ret : Option FieldType} {rm : Room} {av : List Value} {wc : va_W} {post post' : Option Value → va_W → Prop} (h : kM γ l y cc maxL ret rm av wc post) (hp : ∀ r w1, post r w1 → post' r w1) : kM γ l y cc maxL ret rm av wc post' := by
  intro sz p e ha hc hk s m args below hf happ hP hK
  obtain ⟨n, o, h1, h2, h3, h4⟩ := h sz p e ha hc hk s m args below hf happ hP hK
  obtain ⟨⟨⟨r, w1, e1, e2, e3⟩, e4⟩, h5⟩ := h4
  exact ⟨n, o, h1, h2, h3, ⟨⟨r, w1, e1, hp r w1 e2, e3⟩, e4⟩, h5⟩
/-- a contract out of another: less before, more behind -/
theorem q_imp {γ : kΓ} {l : Launch} {D : qWd} {X X' : va_W → Prop} {MT : List qMt} {c c' : qCon} (h : qSem γ l D X MT c) (hc : c'.1 = c.1) (hpre : ∀ adr ws av, qPre D γ X' c' adr ws av → qPre D γ X c adr ws av) (hpost : ∀ adr ws av r w1, qPre D γ X' c' adr ws av → qPost D γ X c adr ws av r w1 → qPost D γ X' c' adr ws av r w1) : qSem γ l D X' MT c' := by
  obtain ⟨y, hy, hs⟩ := h
  refine ⟨y, by rw [hc]; exact hy, fun adr ws av hp => ?_⟩
  have := hs adr ws av (hpre adr ws av hp)
  rw [hc]
  exact k_imp this (fun r w1 h1 => hpost adr ws av r w1 hp h1)
/-- what X looks at: the slots of the regions xr -/
def qdep (D : qWd) (xr : List Nat) (X : va_W → Prop) : Prop := ∀ ws w1 : va_W, ws.map Prod.fst = w1.map Prod.fst → (∀ (q g a a' : Nat) (c c' : va_E), D.1[q]? = some g → g ∈ xr → ws[q]? = some (a, c) → w1[q]? = some (a', c') → ∀ k, qrd c' k = qrd c k) → X ws → X w1
theorem q_up {γ : kΓ} {l : Launch} {D : qWd} {X : va_W → Prop} {MT : List qMt} {c : qCon} {xr : List Nat} (hX : qdep D xr X) (hm : c.2.2.2.2.2.all (fun m => !(xr.contains m.1)) = true) (h : qSem γ l D (fun _ => True) MT c) : qSem γ l D X MT c := by
  refine q_imp h rfl (fun adr ws av hp => ⟨hp.1, trivial, hp.2.2⟩) (fun adr ws av r w1 hp hq => ⟨hq.1, ?_, hq.2.2⟩)
  refine hX ws w1 (hp.1.1.trans hq.1.1.symm) (fun q g a a' c0 c1 hg hx h0 h1 k => ?_) hp.2.1
  refine hq.2.2.1 q g a c0 a' c1 hg h0 h1 k ?_
  rw [List.all_eq_true] at hm
  unfold qmod
  rw [List.any_eq_false]
  intro m hm1 hm2
  have := hm m hm1
  simp only [Bool.and_eq_true, beq_iff_eq] at hm2
  rw [hm2.1.1] at this
  simp only [Bool.not_eq_true', List.contains_eq_mem, decide_eq_false_iff_not] at this
  exact this hx
/-- and a write elsewhere leaves it -/
theorem q_depW {D : qWd} {xr : List Nat} {X : va_W → Prop} (hX : qdep D xr X) (adr : List Nat) (ws : va_W) (q g a : Nat) (c : va_E) (hg : D.1[q]? = some g) (hx : ¬ g ∈ xr) (he : ws.map Prod.fst = adr) (ha : adr[q]? = some a) (h : X ws) : X (ws.set q (a, c)) := by
  refine hX ws _ ?_ (fun q' g' a1 a2 c1 c2 hg' hx' h1 h2 k => ?_) h
  · rw [List.map_set]
    apply List.ext_getElem?
    intro i
    rw [List.getElem?_set]
    split
    · rename_i e
      subst e
      split
      · rw [he, ha]
      · rename_i h9
        rw [List.getElem?_eq_none (by omega)]
    · rfl
  · have : q' ≠ q := fun e => by subst e; rw [hg] at hg'; cases hg'; exact hx hx'
    rw [List.getElem?_set_ne (Ne.symm this)] at h2
    rw [h1] at h2
    cases h2
    rfl

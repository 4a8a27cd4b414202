/-! the law's loop: what holds at its head -/
def lR (wx wm : va_W) : Prop := qsl2 wx 1 1 = qsl2 wm 0 1
def lIv (γ : kΓ) (A : Nat → Prop) (ax am : List Nat) (ou : Nat) (s : State) (H : Heap) (locs : List Loc) : Prop := ∃ (wx wm : va_W) (fo : Nat → Int64), kW γ A (wx ++ (wm ++ [(ou, .inl (γ.2.1 1, 1, .inr (.inl fo)))])) s H locs ∧ qH cD γ ax (fun _ _ => False) wx ∧ qH mD γ am (fun _ _ => False) wm ∧ mX wm ∧ lR wx wm
theorem b_sw {a b c : va_W} : (a ++ (b ++ c)).Perm (b ++ (a ++ c)) := by
  rw [← List.append_assoc, ← List.append_assoc]
  exact List.Perm.append_right c List.perm_append_comm
theorem b_sw2 {a b c : va_W} : (a ++ (b ++ c)).Perm ((a ++ c) ++ b) := by
  rw [List.append_assoc]
  exact List.Perm.append_left a List.perm_append_comm
theorem b_sw3 {a b c : va_W} : ((a ++ c) ++ b).Perm (a ++ (b ++ c)) := b_sw2.symm
theorem v_bool {D : qWd} {γ : kΓ} {adr : List Nat} {v : Int32} (h : v = 0 ∨ v = 1) : qvT D γ adr (0, 0, 1) (.int v) := ⟨fun _ => ⟨v, rfl, by rcases h with rfl | rfl <;> exact ⟨by decide, by decide⟩⟩, fun h => (by cases h), fun h => (by cases h)⟩
section LSW
variable {γ : kΓ} {p : Program} {l : Launch} {e : Env} {R : Room} {s : State} {m : MethodId} {args : Array Value} {below : List Frame} {meth : Method} {c : Code} {H : Heap} {locs : List Loc} {cells slots : Nat} {Q : State → Prop}
variable {cc : ByteArray} {nL pc : Nat} {own : String} {A : Nat → Prop} {ls : Array Slot} {rest st0 : List Value}
variable {y : MethodName} {bytes : ByteArray} {maxL n index : Nat} {ret : Option FieldType} {hh : List (Nat × Nat × Nat × Nat)} {rm : Room} {wc wr : va_W} {post : Option Value → va_W → Prop} {As : List Value}
theorem l_SW (n : Nat) (hl : Cond.methodLink own index y ∈ kG) (hi : Cond.static y ∈ kG) (hz : Cond.initialized y.cls ∈ kG) (hcode : Cond.codeWith y bytes maxL ret hh ∈ kG)
    (hd : y.cls ≠ "java/lang/invoke/MethodHandle" ∧ y.cls ≠ "java/lang/invoke/VarHandle" ∧ (parseMethodDescriptor y.desc).map (fun d => d.parameters.length) = some n)
    (hC : kC γ p s m args c cc nL own A) (hw : kW γ A (wc ++ wr) s H locs) (hM : kMW γ l y bytes maxL ret hh rm As wc post) (hR : rm.frames + 1 ≤ R.frames ∧ 8 + (maxL + 11) + rm.locals ≤ R.locals) (hf : cells + rm.cells ≤ R.cells ∧ slots + rm.slots ≤ R.slots)
    (hml : ls.size = nL) (hn : As.length = n) (hstack : st0 = As.reverse ++ rest) (hW : (rest.map fun v => v.category).sum ≤ 8) (hdg : decode cc pc = .ok (.invokestatic index, 3))
    (kk : ∀ (r : Option Value) (w1 : va_W) (H1 : Heap) (locs1 : List Loc), post r w1 → kW γ A (w1 ++ wr) s H1 locs1 → W p l e R s m args below meth c H1 locs1 (cells + rm.cells) (slots + rm.slots) Q (F0 m (pc + 3) ls (r.toList ++ rest))) : W p l e R s m args below meth c H locs cells slots Q (F0 m pc ls st0) :=
  k_SW (wr := wr) n hl hi hz hcode hd hC hw hM hR hf hml hn hstack hW (List.range wc.length) (bsh wc.length wr.length) (q_nd _) (b_ap1 wc wr) (b_ap2 wc wr) (b_ndsh _ _) (b_apd _ _) hdg (fun r w1 H1 locs1 hp hw => kk r w1 H1 locs1 hp (hw.perm List.perm_append_comm))
end LSW

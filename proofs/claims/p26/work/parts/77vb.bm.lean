/-! Days.BEFORE_MONTH, also where the heap changes -/
def zBQ (cA : Nat → ClassId) (sz : Nat) (H0 : Heap) (U : State) : Prop := ∃ (a : Nat) (cell : Cell), va_Z "MomentTexts$Days" "BEFORE_MONTH" "[I" (.ref a) (fun q => sz ≤ q) U H0 ∧ a < sz ∧ H0[a]? = some cell ∧ (∀ j, j < 13 → ∃ y : Int32, cell.slots[j]? = some (.int y) ∧ y.toInt = bm j) ∧ U.isArrayOf cell .int ∧ cell.vm ≠ .unknown ∧ 13 ≤ cell.slots.size ∧ cA 0 = cA 0
theorem zBQ.alike {cA : Nat → ClassId} {sz : Nat} {H0 : Heap} {u U : State} (h : u.vm.Alike U.vm) (k : zBQ cA sz H0 u) : zBQ cA sz H0 U := by
  obtain ⟨a, cell, h1, h2, h3, h4, h5, h6⟩ := k
  exact ⟨a, cell, va_Z.moved h h1, h2, h3, h4, State.isArrayOf_alike h h5, h6⟩
theorem zBQ.bm {D : va_G} {cA : Nat → ClassId} {ro : Nat → Option Nat} {sz : Nat} {H0 : Heap} {locs : List Loc} {U : State} (k : zBQ cA sz H0 U) (hh : zh_ok D cA RTg ro sz H0 U.heap locs) : zBM cA U := by
  obtain ⟨a, cell, h1, h2, h3, h4, h5⟩ := k
  exact ⟨a, cell, va_Z.narrow (va_Z.kept h1 (fun q _ g => hh.2.1 q (Nat.not_le.mp g))) (fun q g => g.elim), (hh.2.1 a h2).trans h3, h4, h5⟩
theorem zBQ_of {cA : Nat → ClassId} {s : State} (k : zBM cA s) : zBQ cA s.heap.size s.heap s := by
  obtain ⟨a, cell, ⟨c, kk, i, f, a0, cl, h1, h2, h3, h4, h5, h6, h7, h8⟩, g2, g3⟩ := k
  exact ⟨a, cell, ⟨c, kk, i, f, a0, cl, h1, h2, h3, h4, h5, h6, h7, Nat.not_le.mpr (Array.getElem?_eq_some_iff.mp h5).1⟩, (Array.getElem?_eq_some_iff.mp g2).1, g2, g3⟩
section ZSB
variable {D : va_G} {cA : Nat → ClassId} {ro : Nat → Option Nat} {sz : Nat} {H0 H : Heap} {J : Heap → Prop} {vs : List Value}
def zs_PB (D : va_G) (cA : Nat → ClassId) (ro : Nat → Option Nat) (sz : Nat) (H0 : Heap) (J : Heap → Prop) (vs : List Value) : Array Value → State → Prop := fun a U => a = vs.toArray ∧ zh_ok D cA RTg ro sz H0 U.heap [] ∧ (zKn D cA ro sz H0 U ∧ zBQ cA sz H0 U) ∧ J U.heap
theorem zs_blindB : FrameBlind (zs_PB D cA ro sz H0 J vs) := by
  intro a U g mk h
  obtain ⟨h1, h2, h3, h4⟩ := h
  exact ⟨h1, h2, ⟨zKb U (U.calling g mk a) (Vm.Alike.refl U.vm) h3.1, h3.2.alike (Vm.Alike.refl U.vm)⟩, h4⟩
def zs_PY (D : va_G) (cA : Nat → ClassId) (ro : Nat → Option Nat) (sz : Nat) (H0 : Heap) (J : Heap → Prop) (vs : List Value) : Array Value → State → Prop := fun a U => a = vs.toArray ∧ zh_ok D cA RTg ro sz H0 U.heap [] ∧ zKa D cA ro sz H0 U ∧ zBQ cA sz H0 U ∧ J U.heap
theorem zs_blindY : FrameBlind (zs_PY D cA ro sz H0 J vs) := by
  intro a U g mk h
  obtain ⟨h1, h2, h3, h4, h5⟩ := h
  exact ⟨h1, h2, zKa.same (s := U) (U := U.calling g mk a) rfl h3, h4.alike (Vm.Alike.refl U.vm), h5⟩
end ZSB

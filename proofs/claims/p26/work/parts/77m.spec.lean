/-! calls with the shared state: what they need and give -/
section ZS
variable {D : va_G} {cA : Nat → ClassId} {ro : Nat → Option Nat} {sz : Nat} {H0 H : Heap} {locs : List Loc} {J : Heap → Prop} {vs : List Value} {s : State}
def zs_P (D : va_G) (cA : Nat → ClassId) (ro : Nat → Option Nat) (sz : Nat) (H0 : Heap) (J : Heap → Prop) (vs : List Value) : Array Value → State → Prop := fun a U => a = vs.toArray ∧ zh_ok D cA RTg ro sz H0 U.heap [] ∧ zKn D cA ro sz H0 U ∧ J U.heap
theorem zs_blind : FrameBlind (zs_P D cA ro sz H0 J vs) := by
  intro a U g mk h
  obtain ⟨h1, h2, h3, h4⟩ := h
  exact ⟨h1, h2, zKb U (U.calling g mk a) (Vm.Alike.refl U.vm) h3, h4⟩
def zs_PX (D : va_G) (cA : Nat → ClassId) (ro : Nat → Option Nat) (sz : Nat) (H0 : Heap) (J : Heap → Prop) (vs : List Value) : Array Value → State → Prop := fun a U => a = vs.toArray ∧ zh_ok D cA RTg ro sz H0 U.heap [] ∧ zKa D cA ro sz H0 U ∧ zBM cA U ∧ J U.heap
theorem zs_blindX : FrameBlind (zs_PX D cA ro sz H0 J vs) := by
  intro a U g mk h
  obtain ⟨h1, h2, h3, h4, h5⟩ := h
  exact ⟨h1, h2, zKa.same (s := U) (U := U.calling g mk a) rfl h3, zBM_B.1 U (U.calling g mk a) rfl rfl h4, h5⟩
theorem zs_ob {x r ci : Nat} {fs : List zt_T} {C : String} (hh : zh_ok D cA RTg ro sz H0 H locs) (ha : ro x = some r) (hr : RTg[r]? = some (0, ci, 0, fs)) (hC : s.vm.findClass C = some (D.1 ci)) : ∃ cell : Cell, H[x]? = some cell ∧ cell.vm = .none ∧ s.vm.findClass C = some cell.cls := by
  obtain ⟨-, cell, c1, c2, c3, -⟩ := zh_obj hh ha hr
  exact ⟨cell, c1, c3, by rw [c2]; exact hC⟩
end ZS
theorem l_nmem {L : List Int} {d : Int} (h : ∀ j : Nat, j < L.length → L[j]? ≠ some d) : d ∉ L := fun m => by
  obtain ⟨i, hi⟩ := List.getElem?_of_mem m
  exact h i (List.getElem?_eq_some_iff.mp hi).1 hi
/-- the leap seconds from day 0 to a day's beginning -/
def lcI (x d : Int) : Int := if 0 ≤ x ∧ x < d then 1 else if x < 0 ∧ d ≤ x then -1 else 0
def lsI (L : List Int) (d : Int) : Int := L.foldr (fun x n => lcI x d + n) 0
theorem lcI_bd (x d : Int) : -1 ≤ lcI x d ∧ lcI x d ≤ 1 := by unfold lcI; split <;> (try split) <;> omega
theorem lsI_cons (x : Int) (t : List Int) (d : Int) : lsI (x :: t) d = lcI x d + lsI t d := rfl
theorem lsI_app (A : List Int) (x d : Int) : lsI (A ++ [x]) d = lsI A d + lcI x d := by
  induction A with
  | nil => simp [lsI]
  | cons y t ih => rw [List.cons_append, lsI_cons, lsI_cons, ih]; omega
theorem lsI_bd (A : List Int) (d : Int) : -(A.length : Int) ≤ lsI A d ∧ lsI A d ≤ A.length := by
  induction A with
  | nil => simp [lsI]
  | cons y t ih => have h := lcI_bd y d; rw [lsI_cons, List.length_cons]; omega
theorem lsI_take {L : List Int} {i : Nat} {v d : Int} (h : L[i]? = some v) : lsI (L.take (i + 1)) d = lsI (L.take i) d + lcI v d := by
  rw [List.take_add_one, h]
  exact lsI_app _ _ _
theorem jN_app {L : List Int} {z : Nat → Value} {d : Int64} (h : jN L z) : jN (L ++ [d.toInt]) (updV z L.length (.long d)) := by
  intro i hi
  rw [List.length_append] at hi
  have hi : i < L.length + 1 := hi
  by_cases e : i = L.length
  · subst e
    exact ⟨d, by simp [updV], by simp⟩
  · obtain ⟨v, h1, h2⟩ := h i (by omega)
    exact ⟨v, by simp [updV, e, h1], by rw [List.getElem?_append_left (by omega)]; exact h2⟩
def dOK (d : Int) : Prop := -365961662 ≤ d ∧ d ≤ 364522971
theorem jL_app {L : List Int} {d : Int} (h : jL L) (h1 : d ∉ L) (h2 : L.length < 40) (h3 : dOK d) : jL (L ++ [d]) := by
  refine ⟨?_, by rw [List.length_append]; exact h2, fun y hy => ?_⟩
  · rw [List.nodup_append]
    exact ⟨h.1, by simp, fun a ha b hb => by rw [List.mem_singleton.mp hb]; exact fun g => h1 (g ▸ ha)⟩
  · rcases List.mem_append.mp hy with g | g
    · exact h.2.2 y g
    · rw [List.mem_singleton.mp g]; exact h3
/-- class and reference, each with the state (L, zc) -/
def jCS (D : va_G) (cA : Nat → ClassId) (ro : Nat → Option Nat) (H : Heap) (x : Nat) (L : List Int) (zc : Int) : Prop := jC D cA ro H x L ∧ jZc D H x zc ∧ jL L
def jRS (D : va_G) (cA : Nat → ClassId) (ro : Nat → Option Nat) (H : Heap) (a : Nat) (L : List Int) (zc : Int) : Prop := jR D cA ro H a L ∧ jZr D H a zc ∧ jL L
theorem jCS.kept {D : va_G} {cA : Nat → ClassId} {ro : Nat → Option Nat} {H H' : Heap} {ms : List (Nat × Nat)} {L : List Int} {x : Nat} {zc : Int} (hx : ro x = some 10) (h : zc_kept D RTg ro ms H H') (h1 : ∀ y ∈ jFc, y ∉ ms) (j : jCS D cA ro H x L zc) : jCS D cA ro H' x L zc := ⟨j.1.kept hx h h1, j.2.1.kept hx h (h1 _ (by decide)), j.2.2⟩
theorem jRS.kept {D : va_G} {cA : Nat → ClassId} {ro : Nat → Option Nat} {H H' : Heap} {ms : List (Nat × Nat)} {L : List Int} {a : Nat} {zc : Int} (ha : ro a = some 11) (h : zc_kept D RTg ro ms H H') (h1 : ∀ y ∈ jFr, y ∉ ms) (j : jRS D cA ro H a L zc) : jRS D cA ro H' a L zc := ⟨j.1.kept ha h h1, j.2.1.kept ha h (h1 _ (by decide)), j.2.2⟩
theorem jCS.ext {D : va_G} {cA : Nat → ClassId} {ro ro' : Nat → Option Nat} {H : Heap} {L : List Int} {x : Nat} {zc : Int} (he : ∀ q r, ro q = some r → ro' q = some r) (j : jCS D cA ro H x L zc) : jCS D cA ro' H x L zc := ⟨j.1.ext he, j.2⟩
theorem jRS.ext {D : va_G} {cA : Nat → ClassId} {ro ro' : Nat → Option Nat} {H : Heap} {L : List Int} {a : Nat} {zc : Int} (he : ∀ q r, ro q = some r → ro' q = some r) (j : jRS D cA ro H a L zc) : jRS D cA ro' H a L zc := ⟨j.1.ext he, j.2⟩
def jMc : List (Nat × Nat) := [(4, 1), (10, 2), (13, 0), (20, 0), (42, 0)]
def jMr : List (Nat × Nat) := [(11, 0), (11, 1), (11, 3), (11, 18), (11, 19), (11, 20), (11, 21), (11, 22), (21, 0), (22, 0), (23, 0), (26, 0)]
def zs_Q (D : va_G) (cA : Nat → ClassId) (ro : Nat → Option Nat) (sz : Nat) (H0 : Heap) (x : Nat) (V : Int → Value → Prop) (SP : Int → Int → List Int → Int → Prop) : Array Value → State → Outcome → State → Prop := fun _ st oc t => ∃ (v : Value) (r : Int) (ro' : Nat → Option Nat) (L' : List Int) (zc' : Int), oc = .returned (some v) ∧ V r v ∧ (∀ q r, ro q = some r → ro' q = some r) ∧ zh_ok D cA RTg ro' sz H0 t.heap [] ∧ zc_kept D RTg ro jMc st.heap t.heap ∧ jCS D cA ro' t.heap x L' zc' ∧ SP 0 r L' zc'
def zs_X (D : va_G) (cA : Nat → ClassId) (ro : Nat → Option Nat) (sz : Nat) (H0 : Heap) (L : List Int) (zc : Int) (SP : Int → Int → List Int → Int → Prop) : String → State → State → Prop := fun E st t => zh_ok D cA RTg ro sz H0 t.heap [] ∧ zc_kept D RTg ro jMc st.heap t.heap ∧ zc_kept D RTg ro [] st.heap t.heap ∧ ((E = eI ∧ ∃ r, SP 1 r L zc) ∨ (E = eU ∧ ∃ r, SP 2 r L zc))
def zs_QL (D : va_G) (cA : Nat → ClassId) (ro : Nat → Option Nat) (sz : Nat) (H0 : Heap) (x o : Nat) (SP : Int → Int → List Int → Int → Prop) : Array Value → State → Outcome → State → Prop := fun _ st oc t => ∃ (k : Int32) (ro' : Nat → Option Nat) (L' : List Int) (zc' : Int) (z : Nat → Value) (r : Int64), oc = .returned (some (.int k)) ∧ (∀ q r, ro q = some r → ro' q = some r) ∧ zh_ok D cA RTg ro' sz H0 t.heap [] ∧ zc_kept D RTg ro jMc st.heap t.heap ∧ jCS D cA ro' t.heap x L' zc' ∧ t.heap[o]? = some (arrV (cA 1) 1 z) ∧ z 0 = .long r ∧ ((k.toInt = 0 ∧ SP 0 r.toInt L' zc') ∨ (k.toInt ≠ 0 ∧ ∃ r', SP k.toInt r' L' zc'))
def zs_QR (D : va_G) (cA : Nat → ClassId) (ro : Nat → Option Nat) (sz : Nat) (H0 : Heap) (a : Nat) (V : Int → Value → Prop) (SP : Int → Int → List Int → Int → Prop) : Array Value → State → Outcome → State → Prop := fun _ st oc t => ∃ (v : Value) (r : Int) (w : Int32) (L' : List Int) (zc' : Int), oc = .returned (some v) ∧ V r v ∧ zh_ok D cA RTg ro sz H0 t.heap [] ∧ zc_kept D RTg ro jMr st.heap t.heap ∧ zh_f D t.heap a 11 0 = .int w ∧ jRS D cA ro t.heap a L' zc' ∧ SP w.toInt r L' zc'
def vI (r : Int) (v : Value) : Prop := ∃ y : Int32, v = .int y ∧ y.toInt = r
def vL (r : Int) (v : Value) : Prop := ∃ y : Int64, v = .long y ∧ y.toInt = r
/-- zone, leap: what the document says of them -/
def spZ (o : Int) (L : List Int) (zc k r : Int) (L' : List Int) (zc' : Int) : Prop := L' = L ∧ ((k = 1 ∧ zc' = zc ∧ (o < -1439 ∨ 1439 < o)) ∨ (k = 2 ∧ zc' = zc ∧ -1439 ≤ o ∧ o ≤ 1439 ∧ 8 ≤ zc) ∨ (k = 0 ∧ -1439 ≤ o ∧ o ≤ 1439 ∧ zc < 8 ∧ r = zc ∧ zc' = zc + 1))
def spL (d : Int) (L : List Int) (zc k r : Int) (L' : List Int) (zc' : Int) : Prop := zc' = zc ∧ ((k = 1 ∧ L' = L ∧ (¬ dOK d ∨ d ∈ L)) ∨ (k = 2 ∧ L' = L ∧ dOK d ∧ d ∉ L ∧ 40 ≤ L.length) ∨ (k = 0 ∧ dOK d ∧ d ∉ L ∧ L.length < 40 ∧ r = (L.length : Int) + 1 ∧ L' = L ++ [d]))
def spD (SP : Int → Int → List Int → Int → Prop) : Prop := ∀ k r L z k' r' L' z', SP k r L z → SP k' r' L' z' → k = k' ∧ L = L' ∧ z = z' ∧ (k = 0 → r = r')
theorem spZ_det (o : Int) (L : List Int) (zc : Int) : spD (spZ o L zc) := by
  intro k r L1 z k' r' L2 z' h h'
  obtain ⟨h1, h2⟩ := h
  obtain ⟨g1, g2⟩ := h'
  exact ⟨by omega, by rw [h1, g1], by omega, by omega⟩
theorem spL_det (d : Int) (L : List Int) (zc : Int) : spD (spL d L zc) := by
  intro k r L1 z k' r' L2 z' h h'
  obtain ⟨h1, h2⟩ := h
  obtain ⟨g1, g2⟩ := h'
  rcases h2 with ⟨a1, a2, a3⟩ | ⟨a1, a2, a3, a4, a5⟩ | ⟨a1, a2, a3, a4, a5, a6⟩ <;> rcases g2 with ⟨b1, b2, b3⟩ | ⟨b1, b2, b3, b4, b5⟩ | ⟨b1, b2, b3, b4, b5, b6⟩
  · exact ⟨by omega, by rw [a2, b2], by omega, by omega⟩
  · exact absurd a3 (fun g => g.elim (fun q => q b3) b4)
  · exact absurd a3 (fun g => g.elim (fun q => q b2) b3)
  · exact absurd b3 (fun g => g.elim (fun q => q a3) a4)
  · exact ⟨by omega, by rw [a2, b2], by omega, by omega⟩
  · omega
  · exact absurd b3 (fun g => g.elim (fun q => q a2) a3)
  · omega
  · exact ⟨by omega, by rw [a6, b6], by omega, by omega⟩

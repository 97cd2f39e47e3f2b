/-! what stays as it was -/
section KEPT
variable {D : va_G} {cA : Nat → ClassId} {ro ro' : Nat → Option Nat} {sz : Nat} {H0 H H' : Heap} {locs : List Loc} {ms : List (Nat × Nat)}
theorem kept_grow (hh : zh_ok D cA RTg ro sz H0 H locs) (hq : ∀ q : Nat, q < H.size → H'[q]? = H[q]?) : zc_kept D RTg ro ms H H' := ⟨fun a r k ci n fs ha hr hk hm => by unfold zh_f; rw [hq a (zh_lt hh ha)], fun a r kd ti n fs ha hr hm => hq a (zh_lt hh ha)⟩
theorem kept_but {b : Nat} (hb : ro b = none) (hh : zh_ok D cA RTg ro sz H0 H locs) (hq : ∀ q : Nat, q < H.size → q ≠ b → H'[q]? = H[q]?) : zc_kept D RTg ro ms H H' := by
  have hne : ∀ a r, ro a = some r → a ≠ b := fun a r ha g => by rw [g, hb] at ha; cases ha
  exact ⟨fun a r k ci n fs ha hr hk hm => by unfold zh_f; rw [hq a (zh_lt hh ha) (hne a r ha)], fun a r kd ti n fs ha hr hm => hq a (zh_lt hh ha) (hne a r ha)⟩
theorem kept_ro (he : ∀ q r, ro q = some r → ro' q = some r) (h : zc_kept D RTg ro' ms H H') : zc_kept D RTg ro ms H H' := ⟨fun a r k ci n fs ha hr hk hm => h.1 a r k ci n fs (he a r ha) hr hk hm, fun a r kd ti n fs ha hr hm => h.2 a r kd ti n fs (he a r ha) hr hm⟩
end KEPT
/-- what a wrapper gives: also what stays -/
def zw_Qk (D : va_G) (cA : Nat → ClassId) (ro : Nat → Option Nat) (sz : Nat) (H0 : Heap) (ms : List (Nat × Nat)) : Array Value → State → Outcome → State → Prop := fun _ st oc t => ∃ (k : Int32) (ro' : Nat → Option Nat), oc = .returned (some (.int k)) ∧ (∀ q r, ro q = some r → ro' q = some r) ∧ zh_ok D cA RTg ro' sz H0 t.heap [] ∧ zc_kept D RTg ro ms st.heap t.heap
/-! the state that class and reference share: the leap days L, in their order, and how many zones there are -/
def jN (L : List Int) (z : Nat → Value) : Prop := ∀ i : Nat, i < L.length → ∃ v : Int64, z i = .long v ∧ L[i]? = some v.toInt
def jLp (D : va_G) (cA : Nat → ClassId) (ro : Nat → Option Nat) (H : Heap) (lp : Nat) (L : List Int) : Prop := ∃ (la : Nat) (n : Int32) (z : Nat → Value), zh_f D H lp 4 0 = .ref la ∧ ro la = some 13 ∧ zh_f D H lp 4 1 = .int n ∧ n.toInt = (L.length : Int) ∧ H[la]? = some (arrV (cA 1) 40 z) ∧ jN L z
def jC (D : va_G) (cA : Nat → ClassId) (ro : Nat → Option Nat) (H : Heap) (x : Nat) (L : List Int) : Prop := ∃ lp : Nat, zh_f D H x 10 0 = .ref lp ∧ ro lp = some 4 ∧ jLp D cA ro H lp L
def jR (D : va_G) (cA : Nat → ClassId) (ro : Nat → Option Nat) (H : Heap) (a : Nat) (L : List Int) : Prop := ∃ (lb : Nat) (n : Int32) (z : Nat → Value), zh_f D H a 11 2 = .ref lb ∧ ro lb = some 21 ∧ zh_f D H a 11 1 = .int n ∧ n.toInt = (L.length : Int) ∧ H[lb]? = some (arrV (cA 1) 40 z) ∧ jN L z
def jL (L : List Int) : Prop := L.Nodup ∧ L.length ≤ 40 ∧ ∀ d ∈ L, -365961662 ≤ d ∧ d ≤ 364522971
def jZc (D : va_G) (H : Heap) (x : Nat) (zc : Int) : Prop := ∃ n : Int32, zh_f D H x 10 2 = .int n ∧ n.toInt = zc
def jZr (D : va_G) (H : Heap) (a : Nat) (zc : Int) : Prop := ∃ n : Int32, zh_f D H a 11 3 = .int n ∧ n.toInt = zc
def jJ (D : va_G) (cA : Nat → ClassId) (ro : Nat → Option Nat) (H : Heap) (x a : Nat) : Prop := ∃ (L : List Int) (zc : Int), jC D cA ro H x L ∧ jR D cA ro H a L ∧ jL L ∧ jZc D H x zc ∧ jZr D H a zc
def jFc : List (Nat × Nat) := [(10, 0), (10, 2), (4, 0), (4, 1), (13, 0)]
def jFr : List (Nat × Nat) := [(11, 1), (11, 2), (11, 3), (21, 0)]
section JJ
variable {D : va_G} {cA : Nat → ClassId} {ro ro' : Nat → Option Nat} {sz : Nat} {H0 H H' : Heap} {locs : List Loc} {ms : List (Nat × Nat)} {L : List Int} {x a lp : Nat} {zc : Int}
theorem jLp.kept (hl : ro lp = some 4) (h : zc_kept D RTg ro ms H H') (m1 : (4, 0) ∉ ms) (m2 : (4, 1) ∉ ms) (m3 : (13, 0) ∉ ms) (j : jLp D cA ro H lp L) : jLp D cA ro H' lp L := by
  obtain ⟨la, n, z, e1, e2, e3, e4, e5, e6⟩ := j
  exact ⟨la, n, z, (h.1 lp 4 0 4 0 fsX5 hl rfl (by decide) m1).trans e1, e2, (h.1 lp 4 1 4 0 fsX5 hl rfl (by decide) m2).trans e3, e4, (h.2 la 13 0 1 40 _ e2 rfl m3).trans e5, e6⟩
theorem jC.kept (hx : ro x = some 10) (h : zc_kept D RTg ro ms H H') (hm : ∀ y ∈ jFc, y ∉ ms) (j : jC D cA ro H x L) : jC D cA ro H' x L := by
  obtain ⟨lp, e1, e2, e3⟩ := j
  exact ⟨lp, (h.1 x 10 0 10 0 fsX11 hx rfl (by decide) (hm _ (by decide))).trans e1, e2, e3.kept e2 h (hm _ (by decide)) (hm _ (by decide)) (hm _ (by decide))⟩
theorem jR.kept (ha : ro a = some 11) (h : zc_kept D RTg ro ms H H') (hm : ∀ y ∈ jFr, y ∉ ms) (j : jR D cA ro H a L) : jR D cA ro H' a L := by
  obtain ⟨lb, n, z, e1, e2, e3, e4, e5, e6⟩ := j
  exact ⟨lb, n, z, (h.1 a 11 2 11 0 fsX12 ha rfl (by decide) (hm _ (by decide))).trans e1, e2, (h.1 a 11 1 11 0 fsX12 ha rfl (by decide) (hm _ (by decide))).trans e3, e4, (h.2 lb 21 0 1 40 _ e2 rfl (hm _ (by decide))).trans e5, e6⟩
theorem jZc.kept (hx : ro x = some 10) (h : zc_kept D RTg ro ms H H') (hm : (10, 2) ∉ ms) (j : jZc D H x zc) : jZc D H' x zc := by
  obtain ⟨n, e1, e2⟩ := j
  exact ⟨n, (h.1 x 10 2 10 0 fsX11 hx rfl (by decide) hm).trans e1, e2⟩
theorem jZr.kept (ha : ro a = some 11) (h : zc_kept D RTg ro ms H H') (hm : (11, 3) ∉ ms) (j : jZr D H a zc) : jZr D H' a zc := by
  obtain ⟨n, e1, e2⟩ := j
  exact ⟨n, (h.1 a 11 3 11 0 fsX12 ha rfl (by decide) hm).trans e1, e2⟩
theorem jJ.kept (hx : ro x = some 10) (ha : ro a = some 11) (h : zc_kept D RTg ro ms H H') (h1 : ∀ y ∈ jFc, y ∉ ms) (h2 : ∀ y ∈ jFr, y ∉ ms) (j : jJ D cA ro H x a) : jJ D cA ro H' x a := by
  obtain ⟨L, zc, j1, j2, j3, j4, j5⟩ := j
  exact ⟨L, zc, j1.kept hx h h1, j2.kept ha h h2, j3, j4.kept hx h (h1 _ (by decide)), j5.kept ha h (h2 _ (by decide))⟩
theorem jC.ext (he : ∀ q r, ro q = some r → ro' q = some r) (j : jC D cA ro H x L) : jC D cA ro' H x L := by
  obtain ⟨lp, e1, e2, la, n, z, f1, f2, f3⟩ := j
  exact ⟨lp, e1, he _ _ e2, la, n, z, f1, he _ _ f2, f3⟩
theorem jR.ext (he : ∀ q r, ro q = some r → ro' q = some r) (j : jR D cA ro H a L) : jR D cA ro' H a L := by
  obtain ⟨lb, n, z, f1, f2, f3⟩ := j
  exact ⟨lb, n, z, f1, he _ _ f2, f3⟩
theorem jJ.ext (he : ∀ q r, ro q = some r → ro' q = some r) (j : jJ D cA ro H x a) : jJ D cA ro' H x a := by
  obtain ⟨L, zc, j1, j2, j3⟩ := j
  exact ⟨L, zc, j1.ext he, j2.ext he, j3⟩
end JJ

/-! the state with rules: class -/
abbrev zY : Type := List zE × List rU
section YST
variable {D : va_G} {cA : Nat → ClassId} {ro ro' : Nat → Option Nat} {sz : Nat} {H0 H H' : Heap} {locs : List Loc} {ms : List (Nat × Nat)} {R : List rU} {x az : Nat} {z : Nat → Value} {n : Int32}
theorem none_of {q : Nat} (he : ∀ q r, ro q = some r → ro' q = some r) (h : ro' q = none) : ro q = none := by
  cases g : ro q with
  | none => rfl
  | some r => rw [he q r g] at h; cases h
def jCY (D : va_G) (cA : Nat → ClassId) (ro : Nat → Option Nat) (H : Heap) (x : Nat) (L : List Int) (zc : zY) : Prop := jCZ D cA ro H x L zc.1 ∧ jRR D cA ro H x zc.2
def yGc : List (Nat × Nat) := zGc ++ rFl
theorem jCY.kept {L : List Int} {zc : zY} (hx : ro x = some 10) (h : zc_kept D RTg ro ms H H') (hm : ∀ y ∈ yGc, y ∉ ms) (j : jCY D cA ro H x L zc) : jCY D cA ro H' x L zc := ⟨j.1.kept hx h (fun y hy => hm y (List.mem_append_left _ hy)), j.2.kept hx h (fun y hy => hm y (List.mem_append_right _ hy))⟩
theorem jCY.ext {L : List Int} {zc : zY} (he : ∀ q r, ro q = some r → ro' q = some r) (j : jCY D cA ro H x L zc) : jCY D cA ro' H x L zc := ⟨j.1.ext he, j.2.ext he⟩
theorem jRR.opn (j : jRR D cA ro H x R) (hza : jZa D cA ro H x az z n) : ∃ (q u f t : Nat → Nat) (lp dr df dt : Nat), n.toInt = (R.length : Int) ∧ R.length ≤ 8 ∧ zh_f D H x 10 0 = .ref lp ∧ jUi D ro H z q u f t lp R ∧ jDr D ro H x dr df dt ∧ jDi R.length u f t dr df dt := by
  obtain ⟨az', z', n', q, u, f, t, lp, dr, df, dt, j1, j2, j3, j4, j5, jd, j7⟩ := j
  have ea : az' = az := Value.ref.inj (j1.1.symm.trans hza.1)
  subst ea
  have en : n' = n := Value.int.inj (j1.2.2.2.symm.trans hza.2.2.2)
  subst en
  refine ⟨q, u, f, t, lp, dr, df, dt, j2, j3, j4, fun i r hi => ?_, jd, j7⟩
  obtain ⟨e1, e2⟩ := j5 i r hi
  have hlt := (List.getElem?_eq_some_iff.mp hi).1
  exact ⟨(arrV_i (hza.2.2.1.symm.trans j1.2.2.1) i (by omega)).trans e1, e2⟩
theorem jRR.len {L : List Int} {Z : List zE} (j : jRR D cA ro H x R) (k : jCZ D cA ro H x L Z) : R.length = Z.length := by
  obtain ⟨-, ⟨az, z, n, qf, Af, Bf, hza, hn, -⟩, -, -⟩ := k
  obtain ⟨q, u, f, t, lp, dr, df, dt, h1, -⟩ := j.opn hza
  omega
theorem jUi.kept {q u f t : Nat → Nat} {lp : Nat} (h : zc_kept D RTg ro ms H H') (hm : ∀ y ∈ rFl, y ∈ ms → y = (10, 2) ∨ y = (20, 0)) (j : jUi D ro H z q u f t lp R) : jUi D ro H' z q u f t lp R := fun i r hi => by
  obtain ⟨e1, e2, e3, e4, e5⟩ := j i r hi
  have nm : ∀ y ∈ rFl, y ≠ (10, 2) → y ≠ (20, 0) → y ∉ ms := fun y hy h1 h2 h3 => (hm y hy h3).elim h1 h2
  exact ⟨e1, e2, (h.1 (q i) 9 1 9 0 fsX10 e2 rfl (by decide) (nm _ (by decide) (by decide) (by decide))).trans e3, (h.1 (q i) 9 5 9 0 fsX10 e2 rfl (by decide) (nm _ (by decide) (by decide) (by decide))).trans e4, e5.kept h (fun y hy => nm y (by revert y; decide) (by revert y; decide) (by revert y; decide))⟩
theorem jDr.kept {dr df dt : Nat} (hx : ro x = some 10) (h : zc_kept D RTg ro ms H H') (hm : ∀ y ∈ [(10, 3), (5, 3), (5, 4)], y ∉ ms) (j : jDr D ro H x dr df dt) : jDr D ro H' x dr df dt := by
  obtain ⟨d1, d2, d3, d4, d5⟩ := j
  exact ⟨(h.1 x 10 3 10 0 fsX11 hx rfl (by decide) (hm _ (by decide))).trans d1, d2, (h.1 dr 5 3 5 0 fsX6 d2 rfl (by decide) (hm _ (by decide))).trans d3, (h.1 dr 5 4 5 0 fsX6 d2 rfl (by decide) (hm _ (by decide))).trans d4, d5⟩
/-- a rule that was never read: its numbers are typed -/
theorem jRo_new {u f t : Nat} (hh : zh_ok D cA RTg ro sz H0 H locs) (h5 : ro u = some 5) (hf : ro f = some 6) (ht : ro t = some 6) (f3 : zh_f D H u 5 3 = .ref f) (f4 : zh_f D H u 5 4 = .ref t) (f0 : zh_f D H u 5 0 = .int 0) (f5 : zh_f D H u 5 5 = .int 0) : jRo D ro H u f t r0U := by
  have hR : RTg[5]? = some (0, 5, 0, fsX6) := rfl
  obtain ⟨v1, g1, -, -⟩ := zh_fT (k := 1) (t := (0, (-2147483648), 2147483647)) hh h5 hR rfl
  obtain ⟨v2, g2, -, -⟩ := zh_fT (k := 2) (t := (0, (-2147483648), 2147483647)) hh h5 hR rfl
  obtain ⟨v6, g6, -, -⟩ := zh_fT (k := 6) (t := (0, (-2147483648), 2147483647)) hh h5 hR rfl
  obtain ⟨v7, g7, -, -⟩ := zh_fT (k := 7) (t := (1, (-9223372036854775808), 9223372036854775807)) hh h5 hR rfl
  obtain ⟨v8, g8, -, -⟩ := zh_fT (k := 8) (t := (1, (-9223372036854775808), 9223372036854775807)) hh h5 hR rfl
  obtain ⟨v9, g9, -, -⟩ := zh_fT (k := 9) (t := (1, (-9223372036854775808), 9223372036854775807)) hh h5 hR rfl
  obtain ⟨v10, g10, -, -⟩ := zh_fT (k := 10) (t := (1, (-9223372036854775808), 9223372036854775807)) hh h5 hR rfl
  exact ⟨h5, hf, ht, ⟨f3, f4, 0, v1, v2, f0, g1, g2, by decide, fun h => absurd h (by decide), fun h => absurd h (by decide)⟩, ⟨0, v6, v7, v8, v9, v10, f5, g6, g7, g8, g9, g10, Or.inl (by decide)⟩, rW_0⟩
theorem jCc_off {u : Nat} {r : rU} {tn : Int32} (hh : zh_ok D cA RTg ro sz H0 H locs) (h5 : ro u = some 5) (f5 : zh_f D H u 5 5 = .int tn) (h0 : tn.toInt = 0) : jCc D H u r := by
  have hR : RTg[5]? = some (0, 5, 0, fsX6) := rfl
  obtain ⟨v6, g6, -, -⟩ := zh_fT (k := 6) (t := (0, (-2147483648), 2147483647)) hh h5 hR rfl
  obtain ⟨v7, g7, -, -⟩ := zh_fT (k := 7) (t := (1, (-9223372036854775808), 9223372036854775807)) hh h5 hR rfl
  obtain ⟨v8, g8, -, -⟩ := zh_fT (k := 8) (t := (1, (-9223372036854775808), 9223372036854775807)) hh h5 hR rfl
  obtain ⟨v9, g9, -, -⟩ := zh_fT (k := 9) (t := (1, (-9223372036854775808), 9223372036854775807)) hh h5 hR rfl
  obtain ⟨v10, g10, -, -⟩ := zh_fT (k := 10) (t := (1, (-9223372036854775808), 9223372036854775807)) hh h5 hR rfl
  exact ⟨tn, v6, v7, v8, v9, v10, f5, g6, g7, g8, g9, g10, Or.inl h0⟩
/-- a new zone's rule -/
theorem jRR_app {q u f t : Nat → Nat} {lp dr df dt b u0 f0 t0 : Nat} {n' : Int32} (he : ∀ q r, ro q = some r → ro' q = some r) (hu0 : ro u0 = none) (hf0 : ro f0 = none) (ht0 : ro t0 = none) (hft : f0 ≠ t0) (hl : R.length < 8) (hn : n'.toInt = (R.length : Int) + 1) (hza : jZa D cA ro' H x az (updV z R.length (.ref b)) n') (hlp : zh_f D H x 10 0 = .ref lp) (jU : jUi D ro H z q u f t lp R) (jd : jDr D ro H x dr df dt) (ji : jDi R.length u f t dr df dt) (hb : ro' b = some 9) (hb1 : zh_f D H b 9 1 = .ref lp) (hb5 : zh_f D H b 9 5 = .ref u0) (jo : jRo D ro' H u0 f0 t0 r0U) : jRR D cA ro' H x (R ++ [r0U]) := by
  have nn : ∀ p k, ro p = some k → p ≠ u0 ∧ p ≠ f0 ∧ p ≠ t0 := fun p k hp => ⟨fun e => (by rw [e, hu0] at hp; cases hp), fun e => (by rw [e, hf0] at hp; cases hp), fun e => (by rw [e, ht0] at hp; cases hp)⟩
  obtain ⟨d1, d2, d3, d4, d5, d6, d7⟩ := jd
  refine ⟨az, _, n', fun i => if i = R.length then b else q i, fun i => if i = R.length then u0 else u i, fun i => if i = R.length then f0 else f i, fun i => if i = R.length then t0 else t i, lp, dr, df, dt, hza, by rw [List.length_append]; show _ = ((R.length + 1 : Nat) : Int); omega, by rw [List.length_append]; show R.length + 1 ≤ 8; omega, hlp, fun i r hi => ?_, ⟨d1, he _ _ d2, d3, d4, he _ _ d5, he _ _ d6, d7⟩, ?_⟩
  · by_cases g : i = R.length
    · subst g
      rw [List.getElem?_append_right (Nat.le_refl _), Nat.sub_self] at hi
      cases hi
      refine ⟨by simp [updV], ?_⟩
      simp only [if_pos]
      exact ⟨hb, hb1, hb5, jo⟩
    · have hlt : i < R.length := by
        have := (List.getElem?_eq_some_iff.mp hi).1
        rw [List.length_append] at this
        have : i < R.length + 1 := this
        omega
      rw [List.getElem?_append_left hlt] at hi
      obtain ⟨e1, e2, e3, e4, e5⟩ := jU i r hi
      refine ⟨by simp [updV, g, e1], ?_⟩
      simp only [if_neg g]
      exact ⟨he _ _ e2, e3, e4, e5.ext he⟩
  · have old : ∀ i, i < R.length → ro (u i) = some 5 ∧ ro (f i) = some 6 ∧ ro (t i) = some 6 := fun i hi => by
      obtain ⟨-, -, -, -, e5⟩ := jU i R[i] (List.getElem?_eq_getElem hi)
      exact ⟨e5.1, e5.2.1, e5.2.2.1⟩
    have o1 := nn dr 5 d2
    have o2 := nn df 6 d5
    have o3 := nn dt 6 d6
    rw [List.length_append]
    refine ⟨fun i hi => ?_, fun i j hi hj hij => ?_⟩
    · have hi : i < R.length + 1 := hi
      by_cases g : i = R.length
      · simp only [if_pos g]
        exact ⟨o1.1.symm, o2.2.1.symm, o3.2.1.symm, o2.2.2.symm, o3.2.2.symm, hft⟩
      · simp only [if_neg g]
        exact ji.1 i (by omega)
    · have hi : i < R.length + 1 := hi
      have hj : j < R.length + 1 := hj
      by_cases g : i = R.length
      · have g2 : ¬ j = R.length := fun h => hij (by rw [g, h])
        obtain ⟨p1, p2, p3⟩ := old j (by omega)
        have q1 := nn _ _ p1
        have q2 := nn _ _ p2
        have q3 := nn _ _ p3
        simp only [if_pos g, if_neg g2]
        exact ⟨q1.1.symm, q2.2.1.symm, q3.2.1.symm, q2.2.2.symm, q3.2.2.symm⟩
      · by_cases g2 : j = R.length
        · obtain ⟨p1, p2, p3⟩ := old i (by omega)
          have q1 := nn _ _ p1
          have q2 := nn _ _ p2
          have q3 := nn _ _ p3
          simp only [if_neg g, if_pos g2]
          exact ⟨q1.1, q2.2.1, q2.2.2, q3.2.1, q3.2.2⟩
        · simp only [if_neg g, if_neg g2]
          exact ji.2 i j (by omega) (by omega) hij
end YST
def yMc : List (Nat × Nat) := [(0, 2), (0, 3), (0, 4), (4, 1), (5, 0), (5, 1), (5, 2), (5, 5), (5, 6), (5, 7), (5, 8), (5, 9), (5, 10), (6, 0), (6, 1), (6, 2), (6, 3), (6, 4), (9, 4), (10, 2), (13, 0), (14, 0), (15, 0), (19, 0), (20, 0), (42, 0)]
def yy_Q (D : va_G) (cA : Nat → ClassId) (ro : Nat → Option Nat) (sz : Nat) (H0 : Heap) (x : Nat) (V : Int → Value → Prop) (SP : Int → Int → List Int → zY → Prop) : Array Value → State → Outcome → State → Prop := fun _ st oc t => ∃ (v : Value) (r : Int) (ro' : Nat → Option Nat) (L' : List Int) (zc' : zY), oc = .returned (some v) ∧ V r v ∧ (∀ q r, ro q = some r → ro' q = some r) ∧ zh_ok D cA RTg ro' sz H0 t.heap [] ∧ zc_kept D RTg ro yMc st.heap t.heap ∧ jCY D cA ro' t.heap x L' zc' ∧ SP 0 r L' zc'
def yy_X (D : va_G) (cA : Nat → ClassId) (ro : Nat → Option Nat) (sz : Nat) (H0 : Heap) (x : Nat) (L : List Int) (zc : zY) (SP : Int → Int → List Int → zY → Prop) : String → State → State → Prop := fun E st t => zh_ok D cA RTg ro sz H0 t.heap [] ∧ zc_kept D RTg ro yMc st.heap t.heap ∧ jCY D cA ro t.heap x L zc ∧ ((E = eI ∧ ∃ r, SP 1 r L zc) ∨ (E = eU ∧ ∃ r, SP 2 r L zc))
def yy_QL (D : va_G) (cA : Nat → ClassId) (ro : Nat → Option Nat) (sz : Nat) (H0 : Heap) (x o : Nat) (SP : Int → Int → List Int → zY → Prop) : Array Value → State → Outcome → State → Prop := fun _ st oc t => ∃ (k : Int32) (ro' : Nat → Option Nat) (L' : List Int) (zc' : zY) (z : Nat → Value) (r : Int64), oc = .returned (some (.int k)) ∧ (∀ q r, ro q = some r → ro' q = some r) ∧ zh_ok D cA RTg ro' sz H0 t.heap [] ∧ zc_kept D RTg ro yMc st.heap t.heap ∧ jCY D cA ro' t.heap x L' zc' ∧ t.heap[o]? = some (arrV (cA 1) 1 z) ∧ z 0 = .long r ∧ ((k.toInt = 0 ∧ SP 0 r.toInt L' zc') ∨ (k.toInt ≠ 0 ∧ ∃ r', SP k.toInt r' L' zc'))
def ypD (SP : Int → Int → List Int → zY → Prop) : Prop := ∀ k r L z k' r' L' z', SP k r L z → SP k' r' L' z' → k = k' ∧ L = L' ∧ z = z' ∧ (k = 0 → r = r')
def spZY (o : Int) (L : List Int) (zc : zY) (k r : Int) (L' : List Int) (zc' : zY) : Prop := spZZ o L zc.1 k r L' zc'.1 ∧ ((k = 0 ∧ zc'.2 = zc.2 ++ [r0U]) ∨ (k ≠ 0 ∧ zc'.2 = zc.2))
def spLY (d : Int) (L : List Int) (zc : zY) (k r : Int) (L' : List Int) (zc' : zY) : Prop := spLZ d L zc.1 k r L' zc'.1 ∧ zc'.2 = zc.2
def spHY (i t o : Int) (L : List Int) (zc : zY) (k r : Int) (L' : List Int) (zc' : zY) : Prop := spH i t o L zc.1 k r L' zc'.1 ∧ zc'.2 = zc.2
def ruN (T : List Int) (R : List rU) (i : Nat) : List rU := if vdF (ruF T).2 = NONEI then R.set i (ruF T).1 else R
def spUY (i : Int) (T : List Int) (L : List Int) (zc : zY) (k r : Int) (L' : List Int) (zc' : zY) : Prop := L' = L ∧ zc'.1 = zc.1 ∧ ((k = 1 ∧ zc'.2 = zc.2 ∧ ¬ (0 ≤ i ∧ i < (zc.1.length : Int))) ∨ (k = 0 ∧ 0 ≤ i ∧ i < (zc.1.length : Int) ∧ r = vdF (ruF T).2 ∧ zc'.2 = ruN T zc.2 i.toNat))
def gZ (i t : Int) (L : List Int) (zc : zY) : Prop := 0 ≤ i ∧ i < (zc.1.length : Int) ∧ tOK t L
def spOY (i t : Int) (L : List Int) (zc : zY) (k r : Int) (L' : List Int) (zc' : zY) : Prop := L' = L ∧ zc' = zc ∧ ((k = 1 ∧ ¬ gZ i t L zc) ∨ (k = 0 ∧ gZ i t L zc ∧ ∃ e u, zc.1[i.toNat]? = some e ∧ zc.2[i.toNat]? = some u ∧ r = ofF L e u t))
theorem spZY_det (o : Int) (L : List Int) (zc : zY) : ypD (spZY o L zc) := by
  intro k r L1 z k' r' L2 z' h h'
  obtain ⟨q1, q2, q3, q4⟩ := spZZ_det o L zc.1 _ _ _ _ _ _ _ _ h.1 h'.1
  refine ⟨q1, q2, Prod.ext q3 ?_, q4⟩
  rcases h.2 with ⟨a, b⟩ | ⟨a, b⟩ <;> rcases h'.2 with ⟨c, d⟩ | ⟨c, d⟩
  · rw [b, d]
  · omega
  · omega
  · rw [b, d]
theorem spLY_det (d : Int) (L : List Int) (zc : zY) : ypD (spLY d L zc) := by
  intro k r L1 z k' r' L2 z' h h'
  obtain ⟨q1, q2, q3, q4⟩ := spLZ_det d L zc.1 _ _ _ _ _ _ _ _ h.1 h'.1
  exact ⟨q1, q2, Prod.ext q3 (by rw [h.2, h'.2]), q4⟩
theorem spHY_det (i t o : Int) (L : List Int) (zc : zY) : ypD (spHY i t o L zc) := by
  intro k r L1 z k' r' L2 z' h h'
  obtain ⟨q1, q2, q3, q4⟩ := spH_det i t o L zc.1 _ _ _ _ _ _ _ _ h.1 h'.1
  exact ⟨q1, q2, Prod.ext q3 (by rw [h.2, h'.2]), q4⟩
theorem spUY_det (i : Int) (T : List Int) (L : List Int) (zc : zY) : ypD (spUY i T L zc) := by
  intro k r L1 z k' r' L2 z' h h'
  obtain ⟨h1, h2, h3⟩ := h
  obtain ⟨g1, g2, g3⟩ := h'
  rcases h3 with ⟨a1, a2, a3⟩ | ⟨a1, a2, a3, a4, a5⟩ <;> rcases g3 with ⟨b1, b2, b3⟩ | ⟨b1, b2, b3, b4, b5⟩
  · exact ⟨by omega, by rw [h1, g1], Prod.ext (by rw [h2, g2]) (by rw [a2, b2]), by omega⟩
  · exact absurd ⟨b2, b3⟩ a3
  · exact absurd ⟨a2, a3⟩ b3
  · exact ⟨by omega, by rw [h1, g1], Prod.ext (by rw [h2, g2]) (by rw [a5, b5]), by omega⟩
theorem spOY_det (i t : Int) (L : List Int) (zc : zY) : ypD (spOY i t L zc) := by
  intro k r L1 z k' r' L2 z' h h'
  obtain ⟨h1, h2, h3⟩ := h
  obtain ⟨g1, g2, g3⟩ := h'
  rcases h3 with ⟨a1, a2⟩ | ⟨a1, a2, e, u, a3, a4, a5⟩ <;> rcases g3 with ⟨b1, b2⟩ | ⟨b1, b2, e', u', b3, b4, b5⟩
  · exact ⟨by omega, by rw [h1, g1], by rw [h2, g2], by omega⟩
  · exact absurd b2 a2
  · exact absurd a2 b2
  · cases a3.symm.trans b3
    cases a4.symm.trans b4
    exact ⟨by omega, by rw [h1, g1], by rw [h2, g2], fun _ => by rw [a5, b5]⟩
theorem spOY_no2 {i t : Int} {L : List Int} {zc : zY} {r : Int} {L' : List Int} {zc' : zY} (h : spOY i t L zc 2 r L' zc') : False := by
  obtain ⟨-, -, ⟨h, -⟩ | ⟨h, -⟩⟩ := h <;> omega
theorem spUY_no2 {i : Int} {T L : List Int} {zc : zY} {r : Int} {L' : List Int} {zc' : zY} (h : spUY i T L zc 2 r L' zc') : False := by
  obtain ⟨-, -, ⟨h, -⟩ | ⟨h, -⟩⟩ := h <;> omega

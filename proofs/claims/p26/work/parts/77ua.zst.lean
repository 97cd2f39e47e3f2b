/-! zones in the shared state: each with its first offset and its changes -/
abbrev zE : Type := Int × List (Int × Int)
def cN (C : List (Int × Int)) (y w : Nat → Value) : Prop := ∀ j : Nat, j < C.length → ∃ (t : Int64) (o : Int32), y j = .long t ∧ w j = .int o ∧ C[j]? = some (t.toInt, o.toInt)
theorem cN_app {C : List (Int × Int)} {y w : Nat → Value} {t : Int64} {o : Int32} (h : cN C y w) : cN (C ++ [(t.toInt, o.toInt)]) (updV y C.length (.long t)) (updV w C.length (.int o)) := by
  intro j hj
  rw [List.length_append] at hj
  have hj : j < C.length + 1 := hj
  by_cases e : j = C.length
  · subst e
    exact ⟨t, o, by simp [updV], by simp [updV], by simp⟩
  · obtain ⟨t', o', h1, h2, h3⟩ := h j (by omega)
    exact ⟨t', o', by simp [updV, e, h1], by simp [updV, e, h2], by rw [List.getElem?_append_left (by omega)]; exact h3⟩
theorem cN_eq {C : List (Int × Int)} {y w y' w' : Nat → Value} (h : cN C y w) (h1 : ∀ j, j < C.length → y' j = y j) (h2 : ∀ j, j < C.length → w' j = w j) : cN C y' w' := fun j hj => by
  obtain ⟨t, o, g1, g2, g3⟩ := h j hj
  exact ⟨t, o, by rw [h1 j hj, g1], by rw [h2 j hj, g2], g3⟩
theorem cN_nil {y w : Nat → Value} : cN [] y w := fun j hj => absurd hj (Nat.not_lt_zero _)
def jZo (D : va_G) (cA : Nat → ClassId) (ro : Nat → Option Nat) (H : Heap) (q A B : Nat) (e : zE) : Prop := ro q = some 9 ∧ ro A = some 14 ∧ ro B = some 15 ∧ zh_f D H q 9 2 = .ref A ∧ zh_f D H q 9 3 = .ref B ∧ (∃ k : Int32, zh_f D H q 9 0 = .int k ∧ k.toInt = e.1) ∧ ∃ (n : Int32) (y w : Nat → Value), zh_f D H q 9 4 = .int n ∧ n.toInt = (e.2.length : Int) ∧ H[A]? = some (arrV (cA 1) 60 y) ∧ H[B]? = some (arrV (cA 0) 60 w) ∧ cN e.2 y w
def jZa (D : va_G) (cA : Nat → ClassId) (ro : Nat → Option Nat) (H : Heap) (x az : Nat) (z : Nat → Value) (n : Int32) : Prop := zh_f D H x 10 1 = .ref az ∧ ro az = some 20 ∧ H[az]? = some (arrV (cA 4) 8 z) ∧ zh_f D H x 10 2 = .int n
def jZi (D : va_G) (cA : Nat → ClassId) (ro : Nat → Option Nat) (H : Heap) (z : Nat → Value) (q A B : Nat → Nat) (Z : List zE) : Prop := (∀ (i : Nat) (e : zE), Z[i]? = some e → z i = .ref (q i) ∧ jZo D cA ro H (q i) (A i) (B i) e) ∧ ∀ i j : Nat, i < Z.length → j < Z.length → i ≠ j → q i ≠ q j ∧ A i ≠ A j ∧ B i ≠ B j
def jZs (D : va_G) (cA : Nat → ClassId) (ro : Nat → Option Nat) (H : Heap) (x : Nat) (Z : List zE) : Prop := ∃ (az : Nat) (z : Nat → Value) (n : Int32) (q A B : Nat → Nat), jZa D cA ro H x az z n ∧ n.toInt = (Z.length : Int) ∧ jZi D cA ro H z q A B Z
def jZp (z4 z5 z6 z7 : Nat → Value) (Z : List zE) : Prop := ∀ (i : Nat) (e : zE), Z[i]? = some e → (∃ k : Int32, z4 i = .int k ∧ k.toInt = e.1) ∧ (∃ n : Int32, z5 i = .int n ∧ n.toInt = (e.2.length : Int)) ∧ cN e.2 (fun j => z6 (60 * i + j)) (fun j => z7 (60 * i + j))
def jZq (D : va_G) (cA : Nat → ClassId) (ro : Nat → Option Nat) (H : Heap) (a : Nat) (Z : List zE) : Prop := ∃ (a4 a5 a6 a7 : Nat) (z4 z5 z6 z7 : Nat → Value) (n : Int32), (zh_f D H a 11 4 = .ref a4 ∧ ro a4 = some 22 ∧ H[a4]? = some (arrV (cA 0) 8 z4)) ∧ (zh_f D H a 11 5 = .ref a5 ∧ ro a5 = some 23 ∧ H[a5]? = some (arrV (cA 0) 8 z5)) ∧ (zh_f D H a 11 6 = .ref a6 ∧ ro a6 = some 24 ∧ H[a6]? = some (arrV (cA 1) 480 z6)) ∧ (zh_f D H a 11 7 = .ref a7 ∧ ro a7 = some 25 ∧ H[a7]? = some (arrV (cA 0) 480 z7)) ∧ zh_f D H a 11 3 = .int n ∧ n.toInt = (Z.length : Int) ∧ jZp z4 z5 z6 z7 Z
def jZw (Z : List zE) : Prop := Z.length ≤ 8 ∧ ∀ e ∈ Z, e.2.length ≤ 60
def jCZ (D : va_G) (cA : Nat → ClassId) (ro : Nat → Option Nat) (H : Heap) (x : Nat) (L : List Int) (Z : List zE) : Prop := jC D cA ro H x L ∧ jZs D cA ro H x Z ∧ jL L ∧ jZw Z
def jRZ (D : va_G) (cA : Nat → ClassId) (ro : Nat → Option Nat) (H : Heap) (a : Nat) (L : List Int) (Z : List zE) : Prop := jR D cA ro H a L ∧ jZq D cA ro H a Z ∧ jL L ∧ jZw Z
def zFo : List (Nat × Nat) := [(9, 0), (9, 2), (9, 3), (9, 4), (14, 0), (15, 0)]
def zFc : List (Nat × Nat) := [(10, 1), (10, 2), (20, 0), (9, 0), (9, 2), (9, 3), (9, 4), (14, 0), (15, 0)]
def zFr : List (Nat × Nat) := [(11, 3), (11, 4), (11, 5), (11, 6), (11, 7), (22, 0), (23, 0), (24, 0), (25, 0)]
def zGc : List (Nat × Nat) := jFc ++ zFc
def zGr : List (Nat × Nat) := jFr ++ zFr
section ZJ
variable {D : va_G} {cA : Nat → ClassId} {ro ro' : Nat → Option Nat} {sz : Nat} {H0 H H' : Heap} {locs : List Loc} {ms : List (Nat × Nat)} {L : List Int} {Z : List zE} {x a az q A B : Nat} {e : zE} {z : Nat → Value} {n : Int32} {qf Af Bf : Nat → Nat}
theorem jZo.kept (h : zc_kept D RTg ro ms H H') (hm : ∀ y ∈ zFo, y ∉ ms) (j : jZo D cA ro H q A B e) : jZo D cA ro H' q A B e := by
  obtain ⟨r1, r2, r3, f2, f3, ⟨k, f0, hk⟩, n, y, w, f4, hn, cA1, cB1, hc⟩ := j
  exact ⟨r1, r2, r3, (h.1 q 9 2 9 0 fsX10 r1 rfl (by decide) (hm _ (by decide))).trans f2, (h.1 q 9 3 9 0 fsX10 r1 rfl (by decide) (hm _ (by decide))).trans f3, ⟨k, (h.1 q 9 0 9 0 fsX10 r1 rfl (by decide) (hm _ (by decide))).trans f0, hk⟩, n, y, w, (h.1 q 9 4 9 0 fsX10 r1 rfl (by decide) (hm _ (by decide))).trans f4, hn, (h.2 A 14 0 1 60 _ r2 rfl (hm _ (by decide))).trans cA1, (h.2 B 15 0 0 60 _ r3 rfl (hm _ (by decide))).trans cB1, hc⟩
theorem jZo.same (h1 : H'[q]? = H[q]?) (h2 : H'[A]? = H[A]?) (h3 : H'[B]? = H[B]?) (j : jZo D cA ro H q A B e) : jZo D cA ro H' q A B e := by
  obtain ⟨r1, r2, r3, f2, f3, ⟨k, f0, hk⟩, n, y, w, f4, hn, cA1, cB1, hc⟩ := j
  exact ⟨r1, r2, r3, zh_fq h1 f2, zh_fq h1 f3, ⟨k, zh_fq h1 f0, hk⟩, n, y, w, zh_fq h1 f4, hn, h2.trans cA1, h3.trans cB1, hc⟩
theorem jZo.ext (he : ∀ q r, ro q = some r → ro' q = some r) (j : jZo D cA ro H q A B e) : jZo D cA ro' H q A B e := ⟨he _ _ j.1, he _ _ j.2.1, he _ _ j.2.2.1, j.2.2.2⟩
theorem jZa.kept (hx : ro x = some 10) (h : zc_kept D RTg ro ms H H') (m1 : (10, 1) ∉ ms) (m2 : (10, 2) ∉ ms) (m3 : (20, 0) ∉ ms) (j : jZa D cA ro H x az z n) : jZa D cA ro H' x az z n := ⟨(h.1 x 10 1 10 0 fsX11 hx rfl (by decide) m1).trans j.1, j.2.1, (h.2 az 20 0 4 8 _ j.2.1 rfl m3).trans j.2.2.1, (h.1 x 10 2 10 0 fsX11 hx rfl (by decide) m2).trans j.2.2.2⟩
theorem jZi.kept (h : zc_kept D RTg ro ms H H') (hm : ∀ y ∈ zFo, y ∉ ms) (j : jZi D cA ro H z qf Af Bf Z) : jZi D cA ro H' z qf Af Bf Z := ⟨fun i e hi => ⟨(j.1 i e hi).1, (j.1 i e hi).2.kept h hm⟩, j.2⟩
theorem jZi.ext (he : ∀ q r, ro q = some r → ro' q = some r) (j : jZi D cA ro H z qf Af Bf Z) : jZi D cA ro' H z qf Af Bf Z := ⟨fun i e hi => ⟨(j.1 i e hi).1, (j.1 i e hi).2.ext he⟩, j.2⟩
theorem zFo_sub : ∀ y ∈ zFo, y ∈ zFc := by decide
theorem jZs.kept (hx : ro x = some 10) (h : zc_kept D RTg ro ms H H') (hm : ∀ y ∈ zFc, y ∉ ms) (j : jZs D cA ro H x Z) : jZs D cA ro H' x Z := by
  obtain ⟨az, z, n, q, A, B, j1, j2, j3⟩ := j
  exact ⟨az, z, n, q, A, B, j1.kept hx h (hm _ (by decide)) (hm _ (by decide)) (hm _ (by decide)), j2, j3.kept h (fun y hy => hm y (zFo_sub y hy))⟩
theorem jZs.ext (he : ∀ q r, ro q = some r → ro' q = some r) (j : jZs D cA ro H x Z) : jZs D cA ro' H x Z := by
  obtain ⟨az, z, n, q, A, B, j1, j2, j3⟩ := j
  exact ⟨az, z, n, q, A, B, ⟨j1.1, he _ _ j1.2.1, j1.2.2⟩, j2, j3.ext he⟩
theorem jZq.kept (ha : ro a = some 11) (h : zc_kept D RTg ro ms H H') (hm : ∀ y ∈ zFr, y ∉ ms) (j : jZq D cA ro H a Z) : jZq D cA ro H' a Z := by
  obtain ⟨a4, a5, a6, a7, z4, z5, z6, z7, n, ⟨p1, p2, p3⟩, ⟨q1, q2, q3⟩, ⟨r1, r2, r3⟩, ⟨s1, s2, s3⟩, t1, t2, t3⟩ := j
  exact ⟨a4, a5, a6, a7, z4, z5, z6, z7, n, ⟨(h.1 a 11 4 11 0 fsX12 ha rfl (by decide) (hm _ (by decide))).trans p1, p2, (h.2 a4 22 0 0 8 _ p2 rfl (hm _ (by decide))).trans p3⟩, ⟨(h.1 a 11 5 11 0 fsX12 ha rfl (by decide) (hm _ (by decide))).trans q1, q2, (h.2 a5 23 0 0 8 _ q2 rfl (hm _ (by decide))).trans q3⟩, ⟨(h.1 a 11 6 11 0 fsX12 ha rfl (by decide) (hm _ (by decide))).trans r1, r2, (h.2 a6 24 0 1 480 _ r2 rfl (hm _ (by decide))).trans r3⟩, ⟨(h.1 a 11 7 11 0 fsX12 ha rfl (by decide) (hm _ (by decide))).trans s1, s2, (h.2 a7 25 0 0 480 _ s2 rfl (hm _ (by decide))).trans s3⟩, (h.1 a 11 3 11 0 fsX12 ha rfl (by decide) (hm _ (by decide))).trans t1, t2, t3⟩
theorem jZq.ext (he : ∀ q r, ro q = some r → ro' q = some r) (j : jZq D cA ro H a Z) : jZq D cA ro' H a Z := by
  obtain ⟨a4, a5, a6, a7, z4, z5, z6, z7, n, ⟨p1, p2, p3⟩, ⟨q1, q2, q3⟩, ⟨r1, r2, r3⟩, ⟨s1, s2, s3⟩, t1⟩ := j
  exact ⟨a4, a5, a6, a7, z4, z5, z6, z7, n, ⟨p1, he _ _ p2, p3⟩, ⟨q1, he _ _ q2, q3⟩, ⟨r1, he _ _ r2, r3⟩, ⟨s1, he _ _ s2, s3⟩, t1⟩
theorem jCZ.kept (hx : ro x = some 10) (h : zc_kept D RTg ro ms H H') (hm : ∀ y ∈ zGc, y ∉ ms) (j : jCZ D cA ro H x L Z) : jCZ D cA ro H' x L Z := ⟨j.1.kept hx h (fun y hy => hm y (List.mem_append_left _ hy)), j.2.1.kept hx h (fun y hy => hm y (List.mem_append_right _ hy)), j.2.2⟩
theorem jRZ.kept (ha : ro a = some 11) (h : zc_kept D RTg ro ms H H') (hm : ∀ y ∈ zGr, y ∉ ms) (j : jRZ D cA ro H a L Z) : jRZ D cA ro H' a L Z := ⟨j.1.kept ha h (fun y hy => hm y (List.mem_append_left _ hy)), j.2.1.kept ha h (fun y hy => hm y (List.mem_append_right _ hy)), j.2.2⟩
theorem jCZ.ext (he : ∀ q r, ro q = some r → ro' q = some r) (j : jCZ D cA ro H x L Z) : jCZ D cA ro' H x L Z := ⟨j.1.ext he, j.2.1.ext he, j.2.2⟩
theorem jRZ.ext (he : ∀ q r, ro q = some r → ro' q = some r) (j : jRZ D cA ro H a L Z) : jRZ D cA ro' H a L Z := ⟨j.1.ext he, j.2.1.ext he, j.2.2⟩
theorem jZs_nil (hh : zh_ok D cA RTg ro sz H0 H locs) (hx : ro x = some 10) (h : zh_f D H x 10 2 = .int 0) : jZs D cA ro H x [] := by
  obtain ⟨az, f0, r0⟩ := tz_ref (k := 1) (rr := 20) hh hx (show RTg[10]? = some (0, 10, 0, fsX11) from rfl) rfl
  obtain ⟨-, z, hc, -⟩ := zh_arr hh r0 (show RTg[20]? = some (1, 4, 8, [(23, 0, 0)]) from rfl)
  exact ⟨az, z, 0, id, id, id, ⟨f0, r0, hc, h⟩, by decide, fun i e hi => by simp at hi, fun i j hi => absurd hi (Nat.not_lt_zero _)⟩
theorem jZq_nil (hh : zh_ok D cA RTg ro sz H0 H locs) (ha : ro a = some 11) (h : zh_f D H a 11 3 = .int 0) : jZq D cA ro H a [] := by
  have hR : RTg[11]? = some (0, 11, 0, fsX12) := rfl
  obtain ⟨a4, f4, r4⟩ := tz_ref (k := 4) (rr := 22) hh ha hR rfl
  obtain ⟨a5, f5, r5⟩ := tz_ref (k := 5) (rr := 23) hh ha hR rfl
  obtain ⟨a6, f6, r6⟩ := tz_ref (k := 6) (rr := 24) hh ha hR rfl
  obtain ⟨a7, f7, r7⟩ := tz_ref (k := 7) (rr := 25) hh ha hR rfl
  obtain ⟨-, z4, c4, -⟩ := zh_arr hh r4 (show RTg[22]? = some (1, 0, 8, [(0, (-1439), 1439)]) from rfl)
  obtain ⟨-, z5, c5, -⟩ := zh_arr hh r5 (show RTg[23]? = some (1, 0, 8, [(0, 0, 60)]) from rfl)
  obtain ⟨-, z6, c6, -⟩ := zh_arr hh r6 (show RTg[24]? = some (1, 1, 480, [(1, (-100000000000000), 100000000000000)]) from rfl)
  obtain ⟨-, z7, c7, -⟩ := zh_arr hh r7 (show RTg[25]? = some (1, 0, 480, [(0, (-1439), 1439)]) from rfl)
  exact ⟨a4, a5, a6, a7, z4, z5, z6, z7, 0, ⟨f4, r4, c4⟩, ⟨f5, r5, c5⟩, ⟨f6, r6, c6⟩, ⟨f7, r7, c7⟩, h, by decide, fun i e hi => by simp at hi⟩
theorem jZw_nil : jZw [] := ⟨by decide, fun e h => by cases h⟩
theorem jZw_app {o : Int} (h : jZw Z) (hl : Z.length < 8) : jZw (Z ++ [(o, [])]) := ⟨by rw [List.length_append]; exact hl, fun e he => by
  rcases List.mem_append.mp he with g | g
  · exact h.2 e g
  · rw [List.mem_singleton.mp g]; exact Nat.zero_le _⟩
theorem jZw_set {i : Nat} {c : Int × Int} (h : jZw Z) (hl : e.2.length < 60) : jZw (Z.set i (e.1, e.2 ++ [c])) := ⟨by rw [List.length_set]; exact h.1, fun e' he => by
  rcases List.mem_or_eq_of_mem_set he with g | g
  · exact h.2 e' g
  · rw [g]; show (e.2 ++ [c]).length ≤ 60; rw [List.length_append]; exact hl⟩
/-- a new zone: its thing b, its arrays A, B are new -/
theorem jZi_app {b A1 B1 : Nat} {f : Int} (hr : ∀ q r, ro q = some r → ro' q = some r) (hb : ro b = none) (hA : ro A1 = none) (hB : ro B1 = none) (j : jZi D cA ro H z qf Af Bf Z) (g : jZo D cA ro' H b A1 B1 (f, [])) : jZi D cA ro' H (updV z Z.length (.ref b)) (fun i => if i = Z.length then b else qf i) (fun i => if i = Z.length then A1 else Af i) (fun i => if i = Z.length then B1 else Bf i) (Z ++ [(f, [])]) := by
  have hne : ∀ i : Nat, i < Z.length → qf i ≠ b ∧ Af i ≠ A1 ∧ Bf i ≠ B1 := fun i hi => by
    obtain ⟨-, r1, r2, r3, -⟩ := j.1 i Z[i] (List.getElem?_eq_getElem hi)
    exact ⟨fun h => (by rw [h, hb] at r1; cases r1), fun h => (by rw [h, hA] at r2; cases r2), fun h => (by rw [h, hB] at r3; cases r3)⟩
  refine ⟨fun i e hi => ?_, fun i k hi hk hik => ?_⟩
  · by_cases h : i = Z.length
    · subst h
      rw [List.getElem?_append_right (Nat.le_refl _), Nat.sub_self] at hi
      cases hi
      refine ⟨by simp [updV], ?_⟩
      simp only [if_pos]
      exact g
    · have hlt : i < Z.length := by
        have := (List.getElem?_eq_some_iff.mp hi).1
        rw [List.length_append] at this
        have : i < Z.length + 1 := this
        omega
      rw [List.getElem?_append_left hlt] at hi
      obtain ⟨h1, h2⟩ := j.1 i e hi
      refine ⟨by simp [updV, h, h1], ?_⟩
      simp only [if_neg h]
      exact h2.ext hr
  · rw [List.length_append] at hi hk
    have hi : i < Z.length + 1 := hi
    have hk : k < Z.length + 1 := hk
    by_cases h1 : i = Z.length
    · have h2 : ¬ k = Z.length := fun h => hik (by rw [h1, h])
      have := hne k (by omega)
      simp only [if_pos h1, if_neg h2]
      exact ⟨fun h => this.1 h.symm, fun h => this.2.1 h.symm, fun h => this.2.2 h.symm⟩
    · by_cases h2 : k = Z.length
      · have := hne i (by omega)
        simp only [if_neg h1, if_pos h2]
        exact this
      · simp only [if_neg h1, if_neg h2]
        exact j.2 i k (by omega) (by omega) hik
/-- a change of zone i: things of the others stay -/
theorem jZi_set {i : Nat} {e' : zE} (hi : i < Z.length) (j : jZi D cA ro H z qf Af Bf Z) (hq : ∀ p : Nat, p ≠ qf i → p ≠ Af i → p ≠ Bf i → H'[p]? = H[p]?) (g : jZo D cA ro H' (qf i) (Af i) (Bf i) e') : jZi D cA ro H' z qf Af Bf (Z.set i e') := by
  obtain ⟨-, s1, s2, s3, -⟩ := j.1 i Z[i] (List.getElem?_eq_getElem hi)
  refine ⟨fun k e hk => ?_, fun k k' h1 h2 h3 => ?_⟩
  · by_cases h : k = i
    · subst h
      rw [List.getElem?_set_self hi] at hk
      cases hk
      exact ⟨(j.1 k Z[k] (List.getElem?_eq_getElem hi)).1, g⟩
    · rw [List.getElem?_set_ne (fun h' => h h'.symm)] at hk
      have hkl := (List.getElem?_eq_some_iff.mp hk).1
      obtain ⟨h1, h2⟩ := j.1 k e hk
      obtain ⟨n1, n2, n3⟩ := j.2 k i hkl hi h
      obtain ⟨r1, r2, r3, -⟩ := id h2
      refine ⟨h1, h2.same (hq _ n1 (fun h => ?_) (fun h => ?_)) (hq _ (fun h => ?_) n2 (fun h => ?_)) (hq _ (fun h => ?_) (fun h => ?_) n3)⟩
      · rw [h, s2] at r1; cases r1
      · rw [h, s3] at r1; cases r1
      · rw [h, s1] at r2; cases r2
      · rw [h, s3] at r2; cases r2
      · rw [h, s1] at r3; cases r3
      · rw [h, s2] at r3; cases r3
  · rw [List.length_set] at h1 h2
    exact j.2 k k' h1 h2 h3
theorem jZp_app {z4 z5 z6 z7 : Nat → Value} {o k0 : Int32} (hk : k0.toInt = 0) (j : jZp z4 z5 z6 z7 Z) : jZp (updV z4 Z.length (.int o)) (updV z5 Z.length (.int k0)) z6 z7 (Z ++ [(o.toInt, [])]) := by
  intro i e hi
  by_cases h : i = Z.length
  · subst h
    rw [List.getElem?_append_right (Nat.le_refl _), Nat.sub_self] at hi
    cases hi
    exact ⟨⟨o, by simp [updV], rfl⟩, ⟨k0, by simp [updV], by rw [hk]; rfl⟩, cN_nil⟩
  · have hlt : i < Z.length := by
      have := (List.getElem?_eq_some_iff.mp hi).1
      rw [List.length_append] at this
      have : i < Z.length + 1 := this
      omega
    rw [List.getElem?_append_left hlt] at hi
    obtain ⟨⟨k, h1, h2⟩, ⟨n, h3, h4⟩, h5⟩ := j i e hi
    exact ⟨⟨k, by simp [updV, h, h1], h2⟩, ⟨n, by simp [updV, h, h3], h4⟩, h5⟩
theorem jZp_set {z4 z5 z6 z7 : Nat → Value} {i : Nat} {n1 o : Int32} {t : Int64} (hw : jZw Z) (hi : Z[i]? = some e) (hl : e.2.length < 60) (hn : n1.toInt = (e.2.length : Int) + 1) (j : jZp z4 z5 z6 z7 Z) : jZp z4 (updV z5 i (.int n1)) (updV z6 (60 * i + e.2.length) (.long t)) (updV z7 (60 * i + e.2.length) (.int o)) (Z.set i (e.1, e.2 ++ [(t.toInt, o.toInt)])) := by
  have hlt := (List.getElem?_eq_some_iff.mp hi).1
  intro k e' hk
  by_cases h : k = i
  · subst h
    rw [List.getElem?_set_self hlt] at hk
    cases hk
    obtain ⟨h1, -, h5⟩ := j k e hi
    refine ⟨h1, ⟨n1, by simp [updV], by show _ = ((e.2 ++ [(t.toInt, o.toInt)]).length : Int); rw [List.length_append]; show _ = ((e.2.length + 1 : Nat) : Int); omega⟩, cN_eq (cN_app (t := t) (o := o) h5) (fun m _ => ?_) (fun m _ => ?_)⟩
    · show (if 60 * k + m = 60 * k + e.2.length then _ else _) = (if m = e.2.length then _ else _)
      by_cases hm : m = e.2.length
      · rw [if_pos (by omega), if_pos hm]
      · rw [if_neg (by omega), if_neg hm]
    · show (if 60 * k + m = 60 * k + e.2.length then _ else _) = (if m = e.2.length then _ else _)
      by_cases hm : m = e.2.length
      · rw [if_pos (by omega), if_pos hm]
      · rw [if_neg (by omega), if_neg hm]
  · rw [List.getElem?_set_ne (fun h' => h h'.symm)] at hk
    obtain ⟨h1, ⟨n, h3, h4⟩, h5⟩ := j k e' hk
    have hl' := hw.2 e' (List.mem_of_getElem? hk)
    refine ⟨h1, ⟨n, by simp [updV, h, h3], h4⟩, cN_eq h5 (fun m hm => ?_) (fun m hm => ?_)⟩
    · show (if 60 * k + m = 60 * i + e.2.length then _ else _) = _
      rw [if_neg (by omega)]
    · show (if 60 * k + m = 60 * i + e.2.length then _ else _) = _
      rw [if_neg (by omega)]
end ZJ
def zMc : List (Nat × Nat) := [(4, 1), (9, 4), (10, 2), (13, 0), (14, 0), (15, 0), (20, 0), (42, 0)]
def zMr : List (Nat × Nat) := [(11, 0), (11, 1), (11, 3), (11, 21), (11, 22), (21, 0), (22, 0), (23, 0), (24, 0), (25, 0), (26, 0)]
def zz_Q (D : va_G) (cA : Nat → ClassId) (ro : Nat → Option Nat) (sz : Nat) (H0 : Heap) (x : Nat) (V : Int → Value → Prop) (SP : Int → Int → List Int → List zE → Prop) : Array Value → State → Outcome → State → Prop := fun _ st oc t => ∃ (v : Value) (r : Int) (ro' : Nat → Option Nat) (L' : List Int) (Z' : List zE), oc = .returned (some v) ∧ V r v ∧ (∀ q r, ro q = some r → ro' q = some r) ∧ zh_ok D cA RTg ro' sz H0 t.heap [] ∧ zc_kept D RTg ro zMc st.heap t.heap ∧ jCZ D cA ro' t.heap x L' Z' ∧ SP 0 r L' Z'
def zz_X (D : va_G) (cA : Nat → ClassId) (ro : Nat → Option Nat) (sz : Nat) (H0 : Heap) (L : List Int) (Z : List zE) (SP : Int → Int → List Int → List zE → Prop) : String → State → State → Prop := fun E st t => zh_ok D cA RTg ro sz H0 t.heap [] ∧ zc_kept D RTg ro zMc st.heap t.heap ∧ zc_kept D RTg ro [] st.heap t.heap ∧ ((E = eI ∧ ∃ r, SP 1 r L Z) ∨ (E = eU ∧ ∃ r, SP 2 r L Z))
def zz_QL (D : va_G) (cA : Nat → ClassId) (ro : Nat → Option Nat) (sz : Nat) (H0 : Heap) (x o : Nat) (SP : Int → Int → List Int → List zE → Prop) : Array Value → State → Outcome → State → Prop := fun _ st oc t => ∃ (k : Int32) (ro' : Nat → Option Nat) (L' : List Int) (Z' : List zE) (z : Nat → Value) (r : Int64), oc = .returned (some (.int k)) ∧ (∀ q r, ro q = some r → ro' q = some r) ∧ zh_ok D cA RTg ro' sz H0 t.heap [] ∧ zc_kept D RTg ro zMc st.heap t.heap ∧ jCZ D cA ro' t.heap x L' Z' ∧ t.heap[o]? = some (arrV (cA 1) 1 z) ∧ z 0 = .long r ∧ ((k.toInt = 0 ∧ SP 0 r.toInt L' Z') ∨ (k.toInt ≠ 0 ∧ ∃ r', SP k.toInt r' L' Z'))
def zz_QR (D : va_G) (cA : Nat → ClassId) (ro : Nat → Option Nat) (sz : Nat) (H0 : Heap) (a : Nat) (V : Int → Value → Prop) (SP : Int → Int → List Int → List zE → Prop) : Array Value → State → Outcome → State → Prop := fun _ st oc t => ∃ (v : Value) (r : Int) (w : Int32) (L' : List Int) (Z' : List zE), oc = .returned (some v) ∧ V r v ∧ zh_ok D cA RTg ro sz H0 t.heap [] ∧ zc_kept D RTg ro zMr st.heap t.heap ∧ zh_f D t.heap a 11 0 = .int w ∧ jRZ D cA ro t.heap a L' Z' ∧ SP w.toInt r L' Z'
def zpD (SP : Int → Int → List Int → List zE → Prop) : Prop := ∀ k r L z k' r' L' z', SP k r L z → SP k' r' L' z' → k = k' ∧ L = L' ∧ z = z' ∧ (k = 0 → r = r')
def oOK (o : Int) : Prop := -1439 ≤ o ∧ o ≤ 1439
/-- zone, leap, change: what the document says of them -/
def spZZ (o : Int) (L : List Int) (Z : List zE) (k r : Int) (L' : List Int) (Z' : List zE) : Prop := L' = L ∧ ((k = 1 ∧ Z' = Z ∧ ¬ oOK o) ∨ (k = 2 ∧ Z' = Z ∧ oOK o ∧ 8 ≤ Z.length) ∨ (k = 0 ∧ oOK o ∧ Z.length < 8 ∧ r = (Z.length : Int) ∧ Z' = Z ++ [(o, [])]))
def spLZ (d : Int) (L : List Int) (Z : List zE) (k r : Int) (L' : List Int) (Z' : List zE) : Prop := Z' = Z ∧ ((k = 1 ∧ L' = L ∧ (¬ dOK d ∨ d ∈ L)) ∨ (k = 2 ∧ L' = L ∧ dOK d ∧ d ∉ L ∧ 40 ≤ L.length) ∨ (k = 0 ∧ dOK d ∧ d ∉ L ∧ L.length < 40 ∧ r = (L.length : Int) + 1 ∧ L' = L ++ [d]))
def bhC (t : Int) (C : List (Int × Int)) : Prop := ∀ c, C[C.length - 1]? = some c → c.1 < t
def hB (i t o : Int) (L : List Int) (Z : List zE) (e : zE) : Prop := 0 ≤ i ∧ Z[i.toNat]? = some e ∧ oOK o ∧ tOK t L ∧ bhC t e.2
def spH (i t o : Int) (L : List Int) (Z : List zE) (k r : Int) (L' : List Int) (Z' : List zE) : Prop := L' = L ∧ ((k = 1 ∧ Z' = Z ∧ ¬ ∃ e, hB i t o L Z e) ∨ (∃ e, hB i t o L Z e ∧ ((k = 2 ∧ Z' = Z ∧ 60 ≤ e.2.length) ∨ (k = 0 ∧ e.2.length < 60 ∧ r = (e.2.length : Int) + 1 ∧ Z' = Z.set i.toNat (e.1, e.2 ++ [(t, o)])))))
theorem spZZ_det (o : Int) (L : List Int) (Z : List zE) : zpD (spZZ o L Z) := by
  intro k r L1 z k' r' L2 z' h h'
  obtain ⟨h1, h2⟩ := h
  obtain ⟨g1, g2⟩ := h'
  rcases h2 with ⟨a1, a2, a3⟩ | ⟨a1, a2, a3, a4⟩ | ⟨a1, a2, a3, a4, a5⟩ <;> rcases g2 with ⟨b1, b2, b3⟩ | ⟨b1, b2, b3, b4⟩ | ⟨b1, b2, b3, b4, b5⟩
  · exact ⟨by omega, by rw [h1, g1], by rw [a2, b2], by omega⟩
  · exact absurd b3 a3
  · exact absurd b2 a3
  · exact absurd a3 b3
  · exact ⟨by omega, by rw [h1, g1], by rw [a2, b2], by omega⟩
  · omega
  · exact absurd a2 b3
  · omega
  · exact ⟨by omega, by rw [h1, g1], by rw [a5, b5], by omega⟩
theorem spLZ_det (d : Int) (L : List Int) (Z : List zE) : zpD (spLZ d L Z) := by
  intro k r L1 z k' r' L2 z' h h'
  obtain ⟨h1, h2⟩ := h
  obtain ⟨g1, g2⟩ := h'
  have h3 : spL d L 0 k r L1 0 := ⟨rfl, h2⟩
  have g3 : spL d L 0 k' r' L2 0 := ⟨rfl, g2⟩
  obtain ⟨q1, q2, -, q4⟩ := spL_det d L 0 _ _ _ _ _ _ _ _ h3 g3
  exact ⟨q1, q2, by rw [h1, g1], q4⟩
theorem hB_one {i t o : Int} {L : List Int} {Z : List zE} {e e' : zE} (h : hB i t o L Z e) (g : hB i t o L Z e') : e = e' := Option.some.inj (h.2.1.symm.trans g.2.1)
theorem spH_det (i t o : Int) (L : List Int) (Z : List zE) : zpD (spH i t o L Z) := by
  intro k r L1 z k' r' L2 z' h h'
  obtain ⟨h1, h2⟩ := h
  obtain ⟨g1, g2⟩ := h'
  rcases h2 with ⟨a1, a2, a3⟩ | ⟨e, a1, a2⟩ <;> rcases g2 with ⟨b1, b2, b3⟩ | ⟨e', b1, b2⟩
  · exact ⟨by omega, by rw [h1, g1], by rw [a2, b2], by omega⟩
  · exact absurd ⟨e', b1⟩ a3
  · exact absurd ⟨e, a1⟩ b3
  · cases hB_one a1 b1
    rcases a2 with ⟨a2, a3, a4⟩ | ⟨a2, a3, a4, a5⟩ <;> rcases b2 with ⟨b2, b3, b4⟩ | ⟨b2, b3, b4, b5⟩
    · exact ⟨by omega, by rw [h1, g1], by rw [a3, b3], by omega⟩
    · omega
    · omega
    · exact ⟨by omega, by rw [h1, g1], by rw [a5, b5], by omega⟩

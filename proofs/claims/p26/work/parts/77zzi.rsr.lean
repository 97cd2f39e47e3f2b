/-! the state with rules: reference -/
theorem met_post {l : Launch} {y : MethodName} {ws : List Cond} {rm : Room} {P : Array Value → State → Prop} {Q Q' : Array Value → State → Outcome → State → Prop} {mc ms : Nat} {fr : Addr → Prop} (h : Met l y ws rm P Q mc ms fr) (hq : ∀ a st oc t, P a st → Q a st oc t → Q' a st oc t) : Met l y ws rm P Q' mc ms fr := fun p e ha hf hc s m args below h1 h2 h3 h4 => by
  obtain ⟨n, o, a1, a2, a3, a4, a5⟩ := h p e ha hf hc s m args below h1 h2 h3 h4
  exact ⟨n, o, a1, a2, a3, hq _ _ _ _ h3 a4, a5⟩
theorem updV_eq {z : Nat → Value} {i : Nat} {v : Value} : updV z i v i = v := by simp [updV]
theorem updV_ne {z : Nat → Value} {i j : Nat} {v : Value} (h : j ≠ i) : updV z i v j = z j := by simp [updV, h]
def dN (zB : Nat → Value) (b : Nat) (d : rD) : Prop := ∃ k n w v m : Int32, zB b = .int k ∧ zB (b + 1) = .int n ∧ zB (b + 2) = .int w ∧ zB (b + 3) = .int v ∧ zB (b + 4) = .int m ∧ (k.toInt, n.toInt, w.toInt, v.toInt, m.toInt) = d
theorem dN_eq {z z' : Nat → Value} {b b' : Nat} {d : rD} (h : dN z b d) (e : ∀ j, j < 5 → z' (b' + j) = z (b + j)) : dN z' b' d := by
  obtain ⟨k, n, w, v, m, h0, h1, h2, h3, h4, h5⟩ := h
  exact ⟨k, n, w, v, m, (e 0 (by decide)).trans h0, (e 1 (by decide)).trans h1, (e 2 (by decide)).trans h2, (e 3 (by decide)).trans h3, (e 4 (by decide)).trans h4, h5⟩
def jRp (z8 z9 zA zB : Nat → Value) (R : List rU) : Prop := ∀ (i : Nat) (r : rU), R[i]? = some r → (∃ n : Int32, z8 i = .int n ∧ n.toInt = r.1) ∧ (1 ≤ r.1 → ∃ n : Int32, z9 i = .int n ∧ n.toInt = r.2.1) ∧ (r.1 = 2 → (∃ n : Int32, zA i = .int n ∧ n.toInt = r.2.2.1) ∧ dN zB (10 * i) r.2.2.2.1 ∧ dN zB (10 * i + 5) r.2.2.2.2)
def jRQ (D : va_G) (cA : Nat → ClassId) (ro : Nat → Option Nat) (H : Heap) (a : Nat) (R : List rU) : Prop := ∃ (b8 b9 bA bB : Nat) (z8 z9 zA zB : Nat → Value), (zh_f D H a 11 8 = .ref b8 ∧ ro b8 = some 26 ∧ H[b8]? = some (arrV (cA 0) 8 z8)) ∧ (zh_f D H a 11 9 = .ref b9 ∧ ro b9 = some 27 ∧ H[b9]? = some (arrV (cA 0) 8 z9)) ∧ (zh_f D H a 11 10 = .ref bA ∧ ro bA = some 28 ∧ H[bA]? = some (arrV (cA 0) 8 zA)) ∧ (zh_f D H a 11 11 = .ref bB ∧ ro bB = some 29 ∧ H[bB]? = some (arrV (cA 0) 80 zB)) ∧ jRp z8 z9 zA zB R ∧ ∀ r ∈ R, rW r
def jRY (D : va_G) (cA : Nat → ClassId) (ro : Nat → Option Nat) (H : Heap) (a : Nat) (L : List Int) (zc : zY) : Prop := jRZ D cA ro H a L zc.1 ∧ jRQ D cA ro H a zc.2 ∧ zc.2.length = zc.1.length ∧ ∀ e ∈ zc.1, srt e.2
def qFr : List (Nat × Nat) := [(11, 8), (11, 9), (11, 10), (11, 11), (26, 0), (27, 0), (28, 0), (29, 0)]
def yGr : List (Nat × Nat) := zGr ++ qFr
section RSR
variable {D : va_G} {cA : Nat → ClassId} {ro ro' : Nat → Option Nat} {sz : Nat} {H0 H H' : Heap} {locs : List Loc} {ms : List (Nat × Nat)} {L : List Int} {zc : zY} {R : List rU} {a : Nat}
theorem jRQ.kept (ha : ro a = some 11) (h : zc_kept D RTg ro ms H H') (hm : ∀ y ∈ qFr, y ∉ ms) (j : jRQ D cA ro H a R) : jRQ D cA ro H' a R := by
  obtain ⟨b8, b9, bA, bB, z8, z9, zA, zB, ⟨p1, p2, p3⟩, ⟨q1, q2, q3⟩, ⟨r1, r2, r3⟩, ⟨s1, s2, s3⟩, t1⟩ := j
  exact ⟨b8, b9, bA, bB, z8, z9, zA, zB, ⟨(h.1 a 11 8 11 0 fsX12 ha rfl (by decide) (hm _ (by decide))).trans p1, p2, (h.2 b8 26 0 0 8 _ p2 rfl (hm _ (by decide))).trans p3⟩, ⟨(h.1 a 11 9 11 0 fsX12 ha rfl (by decide) (hm _ (by decide))).trans q1, q2, (h.2 b9 27 0 0 8 _ q2 rfl (hm _ (by decide))).trans q3⟩, ⟨(h.1 a 11 10 11 0 fsX12 ha rfl (by decide) (hm _ (by decide))).trans r1, r2, (h.2 bA 28 0 0 8 _ r2 rfl (hm _ (by decide))).trans r3⟩, ⟨(h.1 a 11 11 11 0 fsX12 ha rfl (by decide) (hm _ (by decide))).trans s1, s2, (h.2 bB 29 0 0 80 _ s2 rfl (hm _ (by decide))).trans s3⟩, t1⟩
theorem jRQ.ext (he : ∀ q r, ro q = some r → ro' q = some r) (j : jRQ D cA ro H a R) : jRQ D cA ro' H a R := by
  obtain ⟨b8, b9, bA, bB, z8, z9, zA, zB, ⟨p1, p2, p3⟩, ⟨q1, q2, q3⟩, ⟨r1, r2, r3⟩, ⟨s1, s2, s3⟩, t1⟩ := j
  exact ⟨b8, b9, bA, bB, z8, z9, zA, zB, ⟨p1, he _ _ p2, p3⟩, ⟨q1, he _ _ q2, q3⟩, ⟨r1, he _ _ r2, r3⟩, ⟨s1, he _ _ s2, s3⟩, t1⟩
theorem jRY.kept (ha : ro a = some 11) (h : zc_kept D RTg ro ms H H') (hm : ∀ y ∈ yGr, y ∉ ms) (j : jRY D cA ro H a L zc) : jRY D cA ro H' a L zc := ⟨j.1.kept ha h (fun y hy => hm y (List.mem_append_left _ hy)), j.2.1.kept ha h (fun y hy => hm y (List.mem_append_right _ hy)), j.2.2⟩
theorem jRY.ext (he : ∀ q r, ro q = some r → ro' q = some r) (j : jRY D cA ro H a L zc) : jRY D cA ro' H a L zc := ⟨j.1.ext he, j.2.1.ext he, j.2.2⟩
theorem jRQ_nil (hh : zh_ok D cA RTg ro sz H0 H locs) (ha : ro a = some 11) : jRQ D cA ro H a [] := by
  have hR : RTg[11]? = some (0, 11, 0, fsX12) := rfl
  obtain ⟨a4, f4, r4⟩ := tz_ref (k := 8) (rr := 26) hh ha hR rfl
  obtain ⟨a5, f5, r5⟩ := tz_ref (k := 9) (rr := 27) hh ha hR rfl
  obtain ⟨a6, f6, r6⟩ := tz_ref (k := 10) (rr := 28) hh ha hR rfl
  obtain ⟨a7, f7, r7⟩ := tz_ref (k := 11) (rr := 29) hh ha hR rfl
  obtain ⟨-, z4, c4, -⟩ := zh_arr hh r4 (show RTg[26]? = some (1, 0, 8, [(0, 0, 2)]) from rfl)
  obtain ⟨-, z5, c5, -⟩ := zh_arr hh r5 (show RTg[27]? = some (1, 0, 8, [(0, (-1000000), 1000000)]) from rfl)
  obtain ⟨-, z6, c6, -⟩ := zh_arr hh r6 (show RTg[28]? = some (1, 0, 8, [(0, (-1000000), 1000000)]) from rfl)
  obtain ⟨-, z7, c7, -⟩ := zh_arr hh r7 (show RTg[29]? = some (1, 0, 80, [(0, (-1000000), 1000000)]) from rfl)
  exact ⟨a4, a5, a6, a7, z4, z5, z6, z7, ⟨f4, r4, c4⟩, ⟨f5, r5, c5⟩, ⟨f6, r6, c6⟩, ⟨f7, r7, c7⟩, fun i e hi => by simp at hi, fun r hr => by cases hr⟩
theorem jRp_app {z8 z9 zA zB : Nat → Value} {k0 : Int32} (hk : k0.toInt = 0) (j : jRp z8 z9 zA zB R) : jRp (updV z8 R.length (.int k0)) z9 zA zB (R ++ [r0U]) := by
  intro i r hi
  by_cases h : i = R.length
  · subst h
    rw [List.getElem?_append_right (Nat.le_refl _), Nat.sub_self] at hi
    cases hi
    exact ⟨⟨k0, by simp [updV], hk⟩, fun g => absurd g (by decide), fun g => absurd g (by decide)⟩
  · have hlt : i < R.length := by
      have := (List.getElem?_eq_some_iff.mp hi).1
      rw [List.length_append] at this
      have : i < R.length + 1 := this
      omega
    rw [List.getElem?_append_left hlt] at hi
    obtain ⟨⟨n, h1, h2⟩, h3⟩ := j i r hi
    exact ⟨⟨n, by simp [updV, h, h1], h2⟩, h3⟩
theorem rW_app (j : ∀ r ∈ R, rW r) : ∀ r ∈ R ++ [r0U], rW r := fun r hr => by
  rcases List.mem_append.mp hr with g | g
  · exact j r g
  · rw [List.mem_singleton.mp g]; exact rW_0
theorem rW_set {r' : rU} {i : Nat} (h : rW r') (j : ∀ r ∈ R, rW r) : ∀ r ∈ R.set i r', rW r := fun r hr => by
  rcases List.mem_or_eq_of_mem_set hr with g | g
  · exact j r g
  · rw [g]; exact h
/-- a rule of zone i: its ten numbers come out of zd -/
theorem jRp_set {z8 z9 zA zB zB' zd : Nat → Value} {i : Nat} {n1 o1 o2 : Int32} {r' : rU} (hi : i < R.length) (h1 : n1.toInt = r'.1) (h2 : 1 ≤ r'.1 → o1.toInt = r'.2.1) (h3 : r'.1 = 2 → o2.toInt = r'.2.2.1 ∧ dN zd 0 r'.2.2.2.1 ∧ dN zd 5 r'.2.2.2.2) (hn : ∀ j, j < 10 → zB' (10 * i + j) = zd j) (ho : ∀ k j, k ≠ i → j < 10 → zB' (10 * k + j) = zB (10 * k + j)) (j : jRp z8 z9 zA zB R) : jRp (updV z8 i (.int n1)) (updV z9 i (.int o1)) (updV zA i (.int o2)) zB' (R.set i r') := by
  intro k r hk
  by_cases h : k = i
  · subst h
    rw [List.getElem?_set_self hi] at hk
    cases hk
    refine ⟨⟨n1, by simp [updV], h1⟩, fun g => ⟨o1, by simp [updV], h2 g⟩, fun g => ⟨⟨o2, by simp [updV], (h3 g).1⟩, dN_eq (h3 g).2.1 (fun q hq => ?_), dN_eq (h3 g).2.2 (fun q hq => ?_)⟩⟩
    · rw [hn q (by omega), Nat.zero_add]
    · rw [Nat.add_assoc, hn (5 + q) (by omega)]
  · rw [List.getElem?_set_ne (fun e => h e.symm)] at hk
    obtain ⟨⟨n, e1, e2⟩, e3, e4⟩ := j k r hk
    refine ⟨⟨n, by simp [updV, h, e1], e2⟩, fun g => ?_, fun g => ?_⟩
    · obtain ⟨m, q1, q2⟩ := e3 g
      exact ⟨m, by simp [updV, h, q1], q2⟩
    · obtain ⟨⟨m, q1, q2⟩, q3, q4⟩ := e4 g
      refine ⟨⟨m, by simp [updV, h, q1], q2⟩, dN_eq q3 (fun q hq => ho k q h (by omega)), dN_eq q4 (fun q hq => ?_)⟩
      rw [Nat.add_assoc]
      exact ho k (5 + q) h (by omega)
end RSR
def yMr : List (Nat × Nat) := [(11, 0), (11, 1), (11, 3), (11, 18), (11, 19), (11, 20), (11, 21), (11, 22), (11, 24), (11, 27), (11, 28), (11, 29), (11, 30), (11, 31), (11, 33), (21, 0), (22, 0), (23, 0), (24, 0), (25, 0), (26, 0), (27, 0), (28, 0), (29, 0), (32, 0), (33, 0), (34, 0), (35, 0)]
def yy_QR (D : va_G) (cA : Nat → ClassId) (ro : Nat → Option Nat) (sz : Nat) (H0 : Heap) (a : Nat) (V : Int → Value → Prop) (SP : Int → Int → List Int → zY → Prop) : Array Value → State → Outcome → State → Prop := fun _ st oc t => ∃ (v : Value) (r : Int) (w : Int32) (L' : List Int) (zc' : zY), oc = .returned (some v) ∧ V r v ∧ zh_ok D cA RTg ro sz H0 t.heap [] ∧ zc_kept D RTg ro yMr st.heap t.heap ∧ zh_f D t.heap a 11 0 = .int w ∧ jRY D cA ro t.heap a L' zc' ∧ SP w.toInt r L' zc'
def zz_QM (D : va_G) (cA : Nat → ClassId) (ro : Nat → Option Nat) (sz : Nat) (H0 : Heap) (ms : List (Nat × Nat)) (a : Nat) (V : Int → Value → Prop) (SP : Int → Int → List Int → List zE → Prop) : Array Value → State → Outcome → State → Prop := fun _ st oc t => ∃ (v : Value) (r : Int) (w : Int32) (L' : List Int) (Z' : List zE), oc = .returned (some v) ∧ V r v ∧ zh_ok D cA RTg ro sz H0 t.heap [] ∧ zc_kept D RTg ro ms st.heap t.heap ∧ zh_f D t.heap a 11 0 = .int w ∧ jRZ D cA ro t.heap a L' Z' ∧ SP w.toInt r L' Z'
def yLr : List (Nat × Nat) := [(11, 0), (11, 1), (21, 0)]
def yHr : List (Nat × Nat) := [(11, 0), (23, 0), (24, 0), (25, 0)]
theorem srt_spH {i t o : Int} {L : List Int} {Z : List zE} {k r : Int} {L' : List Int} {Z' : List zE} (h : spH i t o L Z k r L' Z') (hs : ∀ e ∈ Z, srt e.2) : (∀ e ∈ Z', srt e.2) ∧ Z'.length = Z.length := by
  obtain ⟨-, ⟨-, h1, -⟩ | ⟨e, h1, ⟨-, h2, -⟩ | ⟨-, -, -, h2⟩⟩⟩ := h
  · rw [h1]; exact ⟨hs, rfl⟩
  · rw [h2]; exact ⟨hs, rfl⟩
  · rw [h2]
    refine ⟨fun e' he => ?_, List.length_set⟩
    rcases List.mem_or_eq_of_mem_set he with g | g
    · exact hs e' g
    · rw [g]; exact srt_app (hs e (List.mem_of_getElem? h1.2.1)) h1.2.2.2.2

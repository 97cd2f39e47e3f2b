/-! p19: a time, class and reference -/
def kp8 (g g' : fN) : Prop := ∀ k, k < 8 → g' k = g k
theorem kp8.rfl' {g : fN} : kp8 g g := fun _ _ => rfl
theorem kp8.trans {g h k : fN} (a : kp8 g h) (b : kp8 h k) : kp8 g k := fun i hi => (b i hi).trans (a i hi)
theorem kp8.up {g g' : fN} {k : Nat} {v : Int} (h : kp8 g g') (hk : 8 ≤ k) : kp8 g (upF g' k v) := fun i hi => by
  rw [up_ne (by omega)]
  exact h i hi
/-- hours, minutes, seconds, part -/
def TQ (f g : fN) (lo hi : Int) : Prop :=
  g 8 = 1 ∧ g 9 = f 1 ∧ g 10 = f 0 ∧ (lo ≤ f 0 ∧ f 0 ≤ hi) ∧ g 11 = f 3 ∧ (f 3 ≠ 0 → g 12 = f 2 ∧ f 0 ≤ f 2 ∧ f 2 ≤ hi)
  ∧ g 13 = f 5 ∧ (f 5 ≠ 0 → g 14 = f 4 ∧ f 0 ≤ f 4 ∧ (f 3 ≠ 0 → f 2 ≤ f 4) ∧ f 4 ≤ hi) ∧ g 16 = f 6 ∧ (0 ≤ f 1 ∧ f 1 ≤ 99) ∧ (0 ≤ f 3 ∧ f 3 ≤ 99) ∧ (0 ≤ f 5 ∧ f 5 ≤ 99)
/-- no offset yet -/
def TZ (f g : fN) : Prop := f 9 = 0 ∧ f 11 = 0 ∧ f 13 = 0 ∧ g 17 = 0 ∧ g 20 = 0
/-- the offset; m: where the time ends -/
def ZP (f g : fN) (m hi : Int) : Prop :=
  (g 17 = 2 ∧ g 18 = f 11 ∧ g 20 = f 13 ∧ (f 11 ≠ 0 → g 19 = f 10 ∧ m ≤ f 10 ∧ f 10 ≤ hi) ∧ (f 13 ≠ 0 → g 21 = f 12 ∧ m ≤ f 12 ∧ (f 11 ≠ 0 → f 10 ≤ f 12) ∧ f 12 ≤ hi) ∧ ((f 9 = 1 ∧ g 22 = 1) ∨ (f 9 = 0 ∧ g 22 = 0)) ∧ (0 ≤ f 11 ∧ f 11 ≤ 99) ∧ (0 ≤ f 13 ∧ f 13 ≤ 99))
  ∨ (g 17 ≠ 2 ∧ f 11 = 0 ∧ f 13 = 0 ∧ f 9 = 0)
def TP (f g : fN) (lo hi : Int) : Prop := ∃ m, TQ f g lo m ∧ m ≤ hi ∧ ZP f g m hi
theorem TQ.mono {f g : fN} {lo hi hi' : Int} (h : TQ f g lo hi) (q : hi ≤ hi') : TQ f g lo hi' := by
  obtain ⟨a1, a2, a3, a4, a5, a6, a7, a8, a9, b1, b2, b3⟩ := h
  refine ⟨a1, a2, a3, by omega, a5, fun g => ?_, a7, fun g => ?_, a9, b1, b2, b3⟩
  · have := a6 g; omega
  · have := a8 g; omega
theorem TQ.ups {f g : fN} {lo hi v : Int} {k : Nat} (h : TQ f g lo hi) (hk : k = 15 ∨ 17 ≤ k) : TQ f (upF g k v) lo hi := by
  have e : ∀ j, j < 17 → j ≠ 15 → upF g k v j = g j := fun j h1 h2 => up_ne (by omega)
  unfold TQ at *
  rw [e 8 (by decide) (by decide), e 9 (by decide) (by decide), e 10 (by decide) (by decide), e 11 (by decide) (by decide), e 12 (by decide) (by decide), e 13 (by decide) (by decide), e 14 (by decide) (by decide), e 16 (by decide) (by decide)]
  exact h
theorem TQ.upf {f g : fN} {lo hi v : Int} {k : Nat} (h : TQ f g lo hi) (hk : 7 ≤ k) : TQ (upF f k v) g lo hi := by
  have e : ∀ j, j < 7 → upF f k v j = f j := fun j h1 => up_ne (by omega)
  unfold TQ at *
  rw [e 0 (by decide), e 1 (by decide), e 2 (by decide), e 3 (by decide), e 4 (by decide), e 5 (by decide), e 6 (by decide)]
  exact h
theorem TZ.ups {f g : fN} {v : Int} {k : Nat} (h : TZ f g) (hk : k < 17) : TZ f (upF g k v) := by
  unfold TZ at *
  rw [up_ne (show (17 : Nat) ≠ k by omega), up_ne (show (20 : Nat) ≠ k by omega)]
  exact h
theorem TZ.upf {f g : fN} {v : Int} {k : Nat} (h : TZ f g) (hk : k < 9) : TZ (upF f k v) g := by
  unfold TZ at *
  rw [up_ne (show (9 : Nat) ≠ k by omega), up_ne (show (11 : Nat) ≠ k by omega), up_ne (show (13 : Nat) ≠ k by omega)]
  exact h
section TMS
variable {T : List Int} {w b lo : Int} {x : fS} {y : gsS}
/-- what a stage gives -/
def TS (T : List Int) (w b lo : Int) (x : fS) (y : gsS) (X : fS) (Y : gsS) : Prop := RP T w b X.2 Y.2 ∧ bs x.2 X.2 ∧ (X.2.2.1 = 0 → TQ X.1 Y.1 lo X.2.1 ∧ TZ X.1 Y.1 ∧ kp8 y.1 Y.1)
theorem h_same (h : RP T w b x.2 y.2) (g1 : y.1 11 = 0 ∧ y.1 13 = 0 ∧ y.1 16 = 0 ∧ y.1 17 = 0 ∧ y.1 20 = 0) (u v : Int) : TS T w b x.2.1 x y (upF (tsF T x).1 7 u, (tsF T x).2) (nuG T 9 2 (upF (upF y.1 8 1) 15 v, y.2)) ∧ (tsF T x).1 3 = 0 ∧ (tsF T x).1 5 = 0 := by
  obtain ⟨n1, n2, n3⟩ := RP.nm (x := (upF (upF (upF (upF (upF (upF (upF x.1 3 0) 5 0) 6 0) 8 (-1)) 9 0) 11 0) 13 0, x.2)) (y := (upF (upF y.1 8 1) 15 v, y.2)) 1 0 9 2 h
  have e : tsF T x = nmF T 1 0 (2 : Nat) 2 (upF (upF (upF (upF (upF (upF (upF x.1 3 0) 5 0) 6 0) 8 (-1)) 9 0) 11 0) 13 0, x.2) := rfl
  refine ⟨⟨n1, n2, fun q => ?_⟩, by rw [e]; simp [nmF, upF], by rw [e]; simp [nmF, upF]⟩
  obtain ⟨c, c1, c2, c3, c4⟩ := n3 q
  have b0 := n2 q
  have b2 : x.2.1 ≤ (tsF T x).2.1 := b0.2
  have c2' : c ≤ 99 := Int.le_trans c2 (by decide)
  rw [← e] at c3
  dsimp only
  rw [c3, c4]
  refine ⟨?_, ?_, ?_⟩
  · unfold TQ
    refine ⟨?_, ?_, ?_, ?_, ?_, ?_, ?_, ?_, ?_, ?_, ?_, ?_⟩ <;> simp [upF] <;> omega
  · unfold TZ
    refine ⟨?_, ?_, ?_, ?_, ?_⟩ <;> simp [upF] <;> omega
  · exact (((kp8.rfl'.up (by decide)).up (by decide)).up (by decide)).up (by decide)
theorem mi_same (h : RP T w b x.2 y.2) (hq : TQ x.1 y.1 lo x.2.1) (hz : TZ x.1 y.1) (h5 : x.1 5 = 0) : TS T w b lo x y (miF T x) (nuG T 11 2 y) ∧ (miF T x).1 5 = 0 := by
  obtain ⟨n1, n2, n3⟩ := RP.nm (x := (upF x.1 7 60, x.2)) (y := y) 3 2 11 2 h
  have e : miF T x = nmF T 3 2 (2 : Nat) 2 (upF x.1 7 60, x.2) := rfl
  refine ⟨⟨n1, n2, fun q => ?_⟩, by rw [e]; simp [nmF, upF]; exact h5⟩
  obtain ⟨c, c1, c2, c3, c4⟩ := n3 q
  have b2 : x.2.1 ≤ (miF T x).2.1 := (n2 q).2
  have c2' : c ≤ 99 := Int.le_trans c2 (by decide)
  rw [← e] at c3
  rw [c3, c4]
  obtain ⟨a1, a2, a3, a4, a5, a6, a7, a8, a9, k1, k2, k3⟩ := hq
  obtain ⟨z1, z2, z3, z4, z5⟩ := hz
  refine ⟨?_, ?_, (kp8.rfl'.up (by decide)).up (by decide)⟩
  · unfold TQ
    refine ⟨?_, ?_, ?_, ?_, ?_, ?_, ?_, ?_, ?_, ?_, ?_, ?_⟩ <;> simp [upF] <;> omega
  · unfold TZ
    refine ⟨?_, ?_, ?_, ?_, ?_⟩ <;> simp [upF] <;> omega
theorem se_same (h : RP T w b x.2 y.2) (hq : TQ x.1 y.1 lo x.2.1) (hz : TZ x.1 y.1) : TS T w b lo x y (scF9 T x) (nuG T 13 2 y) := by
  obtain ⟨n1, n2, n3⟩ := RP.nm (x := (upF x.1 7 1, x.2)) (y := y) 5 4 13 2 h
  have e : scF9 T x = nmF T 5 4 (2 : Nat) 2 (upF x.1 7 1, x.2) := rfl
  refine ⟨n1, n2, fun q => ?_⟩
  obtain ⟨c, c1, c2, c3, c4⟩ := n3 q
  have b2 : x.2.1 ≤ (scF9 T x).2.1 := (n2 q).2
  have c2' : c ≤ 99 := Int.le_trans c2 (by decide)
  rw [← e] at c3
  rw [c3, c4]
  obtain ⟨a1, a2, a3, a4, a5, a6, a7, a8, a9, k1, k2, k3⟩ := hq
  obtain ⟨z1, z2, z3, z4, z5⟩ := hz
  refine ⟨?_, ?_, (kp8.rfl'.up (by decide)).up (by decide)⟩
  · unfold TQ
    refine ⟨?_, ?_, ?_, ?_, ?_, ?_, ?_, ?_, ?_, ?_, ?_, ?_⟩ <;> simp [upF] <;> omega
  · unfold TZ
    refine ⟨?_, ?_, ?_, ?_, ?_⟩ <;> simp [upF] <;> omega
theorem TS.unit {X : fS} {Y : gsS} {v : Int} (h : TS T w b lo x y X Y) : TS T w b lo x y X (upS 15 v Y) := by
  refine ⟨h.1, h.2.1, fun q => ?_⟩
  obtain ⟨q1, q2, q3⟩ := h.2.2 q
  exact ⟨q1.ups (Or.inl rfl), q2.ups (by decide), q3.up (by decide)⟩
theorem TS.trans {x1 X : fS} {y1 Y : gsS} (h : TS T w b lo x y x1 y1) (g : TS T w b lo x1 y1 X Y) : TS T w b lo x y X Y :=
  ⟨g.1, bs.trans h.2.1 g.2.1, fun q => ⟨(g.2.2 q).1, (g.2.2 q).2.1, (h.2.2 (g.2.1 q).1).2.2.trans (g.2.2 q).2.2⟩⟩
/-- another state of the same fields -/
theorem TS.step {x1 : fS} {y1 : gsS} {s' r' : uS} (h : TS T w b lo x y x1 y1) (hp : RP T w b s' r') (hb : bs x1.2 s') : TS T w b lo x y (x1.1, s') (y1.1, r') :=
  ⟨hp, bs.trans h.2.1 hb, fun q => ⟨(h.2.2 (hb q).1).1.mono (hb q).2, (h.2.2 (hb q).1).2⟩⟩
theorem TS.rfl' (h : RP T w b x.2 y.2) (hq : x.2.2.1 = 0 → TQ x.1 y.1 lo x.2.1 ∧ TZ x.1 y.1) : TS T w b lo x y x y := ⟨h, bs.rfl', fun q => ⟨(hq q).1, (hq q).2, kp8.rfl'⟩⟩
/-- a stage that wants good fields: of a broken text it does nothing -/
theorem TS.bind {x1 X : fS} {y1 Y : gsS} (h : TS T w b lo x y x1 y1) (g : x1.2.2.1 = 0 → TS T w b lo x1 y1 X Y) (g1 : x1.2.2.1 = 1 → RP T w b X.2 Y.2 ∧ X.2.2.1 = 1) : TS T w b lo x y X Y := by
  rcases h.1.b01 with hb | hb
  · exact h.trans (g hb)
  · obtain ⟨g2, g3⟩ := g1 hb
    exact ⟨g2, fun q => by omega, fun q => by omega⟩
theorem nm_brk {k ka k' n : Nat} (h : RP T w b x.2 y.2) (hb : x.2.2.1 = 1) : RP T w b (nmF T k ka n n x).2 (nuG T k' n y).2 ∧ (nmF T k ka n n x).2.2.1 = 1 := by
  refine ⟨(RP.nm k ka k' n h).1, ?_⟩
  show (nbF T n n 0 0 x.2).2.2.1 = 1
  rw [nbF_1 hb]
  exact hb
theorem ms_same {mk mo : Int} (h : RP T w b x.2 y.2) (hm : x.2.2.1 = 0 → mk = mo) (hq : x.2.2.1 = 0 → TQ x.1 y.1 lo x.2.1 ∧ TZ x.1 y.1) (h5 : x.1 5 = 0) : TS T w b lo x y (msF T mk x).2 (tmsG T mo y).2 ∧ ((msF T mk x).2.2.2.1 = 0 → (msF T mk x).1 = (tmsG T mo y).1) := by
  rcases h.b01 with hb | hb
  · have hm := hm hb
    subst hm
    obtain ⟨hq1, hz⟩ := hq hb
    have gd := h.good hb
    have plain : ∀ (mk : Int), TS T w b lo x y (ms3F T mk x).2 (if (y.2.2.1 < 0 ∧ mk ≠ 1) ∧ isD (byI T y.2.1) then ((2, tm2G T (tmiG T y)) : Int × gsS) else (mk, y)).2 ∧ ((ms3F T mk x).2.2.2.1 = 0 → (ms3F T mk x).1 = (if (y.2.2.1 < 0 ∧ mk ≠ 1) ∧ isD (byI T y.2.1) then ((2, tm2G T (tmiG T y)) : Int × gsS) else (mk, y)).1) := by
      intro mk
      unfold ms3F
      by_cases c : mk ≠ 1 ∧ 0 ≤ dgF T x.2
      · have c' := h.dg.mp c.2
        rw [if_pos c, if_pos ⟨⟨c'.1, c.1⟩, c'.2⟩]
        refine ⟨?_, fun _ => rfl⟩
        dsimp only
        have m1 := (mi_same h hq1 hz h5).1.unit (v := 1)
        unfold ms2F tm2G
        have eY : upS 15 1 (nuG T 11 2 y) = tmiG T y := rfl
        rw [eY] at m1
        by_cases d : 0 ≤ dgF T (miF T x).2
        · have d' := m1.1.dg.mp d
          rw [if_pos d, if_pos d']
          refine m1.bind (fun q => ?_) (fun q => ?_)
          · exact (se_same m1.1 (m1.2.2 q).1 (m1.2.2 q).2.1).unit
          · have := nm_brk (x := (upF (miF T x).1 7 1, (miF T x).2)) (y := tmiG T y) (k := 5) (ka := 4) (k' := 13) (n := 2) m1.1 q
            exact this
        · have d' : ¬ ((tmiG T y).2.2.1 < 0 ∧ isD (byI T (tmiG T y).2.1)) := fun q => d (m1.1.dg.mpr q)
          rw [if_neg d, if_neg d']
          exact m1
      · rw [if_neg c, if_neg (fun q => c ⟨q.1.2, h.dg.mpr ⟨q.1.1, q.2⟩⟩)]
        exact ⟨TS.rfl' h hq, fun _ => rfl⟩
    unfold msF tmsG
    by_cases m2 : mk = 2
    · rw [if_pos m2, if_neg (fun q : (y.2.2.1 < 0 ∧ mk ≠ 2) ∧ byI T y.2.1 = 58 => q.1.2 m2)]
      exact plain mk
    · rw [if_neg m2]
      by_cases c : lk T x.2 = 58
      · obtain ⟨a1, a2, a3, a4, a5⟩ := h.takes (by decide) c
        have c' := (h.lkc (by decide)).mp c
        rw [a1]
        dsimp only
        rw [if_pos (show (1 : Int) = 1 from rfl), if_pos ⟨⟨c'.1, m2⟩, c'.2⟩]
        refine ⟨?_, fun _ => rfl⟩
        dsimp only
        have s0 : TS T w b lo x y (x.1, (x.2.1 + 1, x.2.2)) (ad1 y) := (TS.rfl' h hq).step a3 a5
        have q0 := s0.2.2 hb
        have m1 := s0.trans ((mi_same s0.1 q0.1 q0.2.1 h5).1.unit (v := 1))
        have eY : upS 15 1 (nuG T 11 2 (ad1 y)) = tmiG T (ad1 y) := rfl
        rw [eY] at m1
        unfold ms1F tm1G
        by_cases d : lk T (miF T (x.1, (x.2.1 + 1, x.2.2))).2 = 58
        · obtain ⟨k1, k2, k3, k4, k5⟩ := m1.1.takes (by decide) d
          rw [k1, k2]
          dsimp only
          rw [if_pos (show (1 : Int) = 1 from rfl), if_pos (show (1 : Int) = 1 from rfl)]
          have m2' := m1.step k3 k5
          refine m2'.bind (fun q => ?_) (fun q => ?_)
          · exact (se_same m2'.1 (m2'.2.2 q).1 (m2'.2.2 q).2.1).unit
          · exact nm_brk (x := (upF (miF T (x.1, (x.2.1 + 1, x.2.2))).1 7 1, ((miF T (x.1, (x.2.1 + 1, x.2.2))).2.1 + 1, (miF T (x.1, (x.2.1 + 1, x.2.2))).2.2))) (k := 5) (ka := 4) (k' := 13) (n := 2) m2'.1 q
        · obtain ⟨k1, k2⟩ := m1.1.not_takes (by decide) d
          rw [k1, k2]
          dsimp only
          rw [if_neg (show ¬ (0 : Int) = 1 by decide), if_neg (show ¬ (0 : Int) = 1 by decide)]
          exact m1
      · obtain ⟨a1, a2⟩ := h.not_takes (by decide) c
        rw [a1]
        dsimp only
        rw [if_neg (show ¬ (0 : Int) = 1 by decide), if_neg (fun q : (y.2.2.1 < 0 ∧ mk ≠ 2) ∧ byI T y.2.1 = 58 => c ((h.lkc (by decide)).mpr ⟨q.1.1, q.2⟩))]
        exact plain mk
  · have gn := h.brk hb
    have e1 : ∀ mk, (ms3F T mk x).2 = x := fun mk => by
      unfold ms3F
      rw [if_neg (fun q => by have := (h.dg.mp q.2).1; omega)]
    have e2 : (msF T mk x).2 = x := by
      unfold msF
      rw [(tkF_n (T := T) (c := 58) (s := x.2) (by rw [lk_1 (by omega)]; decide))]
      dsimp only
      rw [if_neg (show ¬ (0 : Int) = 1 by decide)]
      split
      · exact e1 _
      · exact e1 _
    have e3 : (tmsG T mo y).2 = y := by
      unfold tmsG
      rw [if_neg (fun q => by have := q.1.1; omega), if_neg (fun q => by have := q.1.1; omega)]
    rw [e2, e3]
    exact ⟨TS.rfl' h hq, fun q => by omega⟩
/-- the digits of a part -/
theorem pt_loop (m : Nat) : ∀ {v k n : Int} {s r : uS}, RP T w b s r → s.2.1 = 0 → 0 ≤ n → ((n < 9 ∧ k = n) ∨ (9 ≤ n ∧ k = 9)) → RP T w b (ptR T m v k s).2 (paL T m v n r).2 ∧ (ptR T m v k s).2.2.1 = 0 ∧ bs s (ptR T m v k s).2 ∧ (ptR T m v k s).1.1 = (paL T m v n r).1.1 ∧ n ≤ (paL T m v n r).1.2 ∧ (((paL T m v n r).1.2 < 9 ∧ (ptR T m v k s).1.2 = (paL T m v n r).1.2) ∨ (9 ≤ (paL T m v n r).1.2 ∧ (ptR T m v k s).1.2 = 9)) := by
  induction m with
  | zero => intro v k n s r h hb hn hk; exact ⟨h, hb, bs.rfl', rfl, Int.le_refl _, hk⟩
  | succ m ih =>
    intro v k n s r h hb hn hk
    have gd := h.good hb
    show RP T w b (if _ then _ else if _ then _ else _ : (Int × Int) × uS).2 (if _ then _ else _ : (Int × Int) × uS).2 ∧ (if _ then _ else if _ then _ else _ : (Int × Int) × uS).2.2.1 = 0 ∧ bs s (if _ then _ else if _ then _ else _ : (Int × Int) × uS).2 ∧ (if _ then _ else if _ then _ else _ : (Int × Int) × uS).1.1 = (if _ then _ else _ : (Int × Int) × uS).1.1 ∧ n ≤ (if _ then _ else _ : (Int × Int) × uS).1.2 ∧ (((if _ then _ else _ : (Int × Int) × uS).1.2 < 9 ∧ (if _ then _ else if _ then _ else _ : (Int × Int) × uS).1.2 = (if _ then _ else _ : (Int × Int) × uS).1.2) ∨ (9 ≤ (if _ then _ else _ : (Int × Int) × uS).1.2 ∧ (if _ then _ else if _ then _ else _ : (Int × Int) × uS).1.2 = 9))
    by_cases d : 0 ≤ dgF T s
    · have d' := h.dg.mp d
      have hd := dgF_iff.mp d
      have ed := dgF_ge hd
      have hlt : s.1 < (T.length : Int) := by
        rw [lk_0 hb] at hd
        exact byI_lt gd.2.2.1 (isD_nn hd)
      have ha := h.adv hb hlt
      have hbs : bs s (s.1 + 1, s.2) := fun g => ⟨g, by show s.1 ≤ s.1 + 1; omega⟩
      rw [lk_0 hb, ← gd.1] at ed
      rw [if_neg (show ¬ dgF T s < 0 by omega), if_pos d']
      rcases hk with g | g
      · rw [if_pos (show k < 9 by omega), if_pos g.1, show v * 10 + dgF T s = 10 * v + byI T r.1 - 48 by omega]
        obtain ⟨i1, i2, i3, i4, i5, i6⟩ := ih (v := 10 * v + byI T r.1 - 48) (k := k + 1) (n := n + 1) ha hb (by omega) (by omega)
        exact ⟨i1, i2, bs.trans hbs i3, i4, by omega, i6⟩
      · rw [if_neg (show ¬ k < 9 by omega), if_neg (show ¬ n < 9 by omega)]
        obtain ⟨i1, i2, i3, i4, i5, i6⟩ := ih (v := v) (k := k) (n := n + 1) ha hb (by omega) (by omega)
        exact ⟨i1, i2, bs.trans hbs i3, i4, by omega, i6⟩
    · rw [if_pos (show dgF T s < 0 by omega), if_neg (fun q => d (h.dg.mpr q))]
      exact ⟨h, hb, bs.rfl', rfl, Int.le_refl _, hk⟩
theorem pt_same {s r : uS} (h : RP T w b s r) : RP T w b (ptF T s).2 (paG T r).2 ∧ bs s (ptF T s).2 ∧ ((ptF T s).2.2.1 = 0 → (ptF T s).1 = (paG T r).1) := by
  by_cases d : 0 ≤ dgF T s
  · have d' := h.dg.mp d
    have hb : s.2.1 = 0 := by
      rcases h.b01 with g | g
      · exact g
      · have := h.brk g; omega
    unfold ptF paG
    rw [if_neg (show ¬ dgF T s < 0 by omega)]
    obtain ⟨i1, i2, i3, i4, i5, i6⟩ := pt_loop 120 (v := 0) (k := 0) (n := 0) h hb (by decide) (Or.inl ⟨by decide, rfl⟩)
    have one : 1 ≤ (paL T 120 0 0 r).1.2 := by
      show 1 ≤ (if _ then _ else _ : (Int × Int) × uS).1.2
      rw [if_pos d']
      have hd := dgF_iff.mp d
      have gd := h.good hb
      have hlt : s.1 < (T.length : Int) := by
        rw [lk_0 hb] at hd
        exact byI_lt gd.2.2.1 (isD_nn hd)
      exact (pt_loop (T := T) (w := w) (b := b) 119 (v := if (0 : Int) < 9 then 10 * 0 + byI T r.1 - 48 else 0) (k := 1) (n := 0 + 1) (h.adv hb hlt) hb (by decide) (Or.inl ⟨by decide, by decide⟩)).2.2.2.2.1
    dsimp only
    rw [if_neg (show ¬ (paL T 120 0 0 r).1.2 = 0 by omega)]
    refine ⟨i1, i3, fun _ => ?_⟩
    rw [i4]
    rcases i6 with g | g
    · rw [g.2]
    · rw [g.2, show 9 - (9 : Int).toNat = 0 from rfl, show 9 - (paL T 120 0 0 r).1.2.toNat = 0 by omega]
  · unfold ptF paG
    rw [if_pos (show dgF T s < 0 by omega), ptR_1 (show (flF s).2.1 = 1 from rfl)]
    have e : paL T 120 0 0 r = ((0, 0), r) := by
      show (if _ then _ else _ : (Int × Int) × uS) = _
      rw [if_neg (fun q => d (h.dg.mpr q))]
    rw [e]
    dsimp only
    rw [if_pos (show (0 : Int) = 0 from rfl)]
    exact ⟨h.fail, fun q => absurd q (by show ¬ (1 : Int) = 0; decide), fun q => absurd q (by show ¬ (1 : Int) = 0; decide)⟩
theorem pa1_same (h : RP T w b x.2 y.2) (hq : x.2.2.1 = 0 → TQ x.1 y.1 lo x.2.1 ∧ TZ x.1 y.1) : TS T w b lo x y (pa1F T x) (tp1G T y) := by
  obtain ⟨p1, p2, p3⟩ := pt_same h
  refine ⟨p1, p2, fun q => ?_⟩
  have e := p3 q
  have b0 := p2 q
  obtain ⟨hq1, hz⟩ := hq b0.1
  have b2 : x.2.1 ≤ (pa1F T x).2.1 := b0.2
  unfold pa1F tp1G
  dsimp only
  rw [e]
  refine ⟨?_, (hz.ups (by decide)).upf (by decide), kp8.rfl'.up (by decide)⟩
  have b3 : x.2.1 ≤ (ptF T x.2).2.1 := b0.2
  obtain ⟨a1, a2, a3, a4, a5, a6, a7, a8, a9, k1, k2, k3⟩ := hq1.mono b3
  unfold TQ
  refine ⟨?_, ?_, ?_, ?_, ?_, ?_, ?_, ?_, ?_, ?_, ?_, ?_⟩ <;> simp [upF] <;> omega
theorem pa_same (h : RP T w b x.2 y.2) (hq : x.2.2.1 = 0 → TQ x.1 y.1 lo x.2.1 ∧ TZ x.1 y.1) : TS T w b lo x y (paF T x) (tpG T y) := by
  have s0 : TS T w b lo x y x y := TS.rfl' h hq
  have yes : ∀ c, 0 ≤ c → (c = 46 ∨ c = 44) → lk T x.2 = c → TS T w b lo x y (pa1F T (x.1, (x.2.1 + 1, x.2.2))) (tpG T y) := by
    intro c hc h46 q
    obtain ⟨a1, a2, a3, a4, a5⟩ := h.takes hc q
    have q' := (h.lkc hc).mp q
    unfold tpG
    rw [if_pos ⟨q'.1, by rcases h46 with e | e <;> omega⟩]
    have s1 := s0.step a3 a5
    exact s1.trans (pa1_same s1.1 (fun q => ⟨(s1.2.2 q).1, (s1.2.2 q).2.1⟩))
  unfold paF
  by_cases c : lk T x.2 = 46
  · rw [(h.takes (by decide) c).1]
    dsimp only
    rw [if_pos (show (1 : Int) = 1 from rfl)]
    exact yes 46 (by decide) (Or.inl rfl) c
  · rw [(h.not_takes (by decide) c).1]
    dsimp only
    rw [if_neg (show ¬ (0 : Int) = 1 by decide)]
    by_cases d : lk T x.2 = 44
    · rw [(h.takes (by decide) d).1]
      dsimp only
      rw [if_pos (show (1 : Int) = 1 from rfl)]
      exact yes 44 (by decide) (Or.inr rfl) d
    · rw [(h.not_takes (by decide) d).1]
      dsimp only
      rw [if_neg (show ¬ (0 : Int) = 1 by decide)]
      unfold tpG
      rw [if_neg (fun q => by rcases q.2 with e | e; exact c ((h.lkc (by decide)).mpr ⟨q.1, e⟩); exact d ((h.lkc (by decide)).mpr ⟨q.1, e⟩))]
      exact s0
theorem pd_same (h : RP T w b x.2 y.2) (hq : x.2.2.1 = 0 → TQ x.1 y.1 lo x.2.1 ∧ TZ x.1 y.1) : TS T w b lo x y (pdF T x) (rp3G T y) := by
  have s0 : TS T w b lo x y x y := TS.rfl' h hq
  unfold pdF rp3G
  by_cases c : lk T x.2 = 46
  · obtain ⟨a1, a2, a3, a4, a5⟩ := h.takes (by decide) c
    rw [a1, a2]
    dsimp only
    rw [if_pos (show (1 : Int) = 1 from rfl), if_pos (show (1 : Int) = 1 from rfl)]
    have s1 := s0.step a3 a5
    exact s1.trans (pa1_same s1.1 (fun q => ⟨(s1.2.2 q).1, (s1.2.2 q).2.1⟩))
  · obtain ⟨a1, a2⟩ := h.not_takes (by decide) c
    rw [a1, a2]
    dsimp only
    rw [if_neg (show ¬ (0 : Int) = 1 by decide), if_neg (show ¬ (0 : Int) = 1 by decide)]
    exact s0
/-- with its offset -/
def TE (T : List Int) (w b lo : Int) (x : fS) (y : gsS) (X : fS) (Y : gsS) : Prop := RP T w b X.2 Y.2 ∧ bs x.2 X.2 ∧ (X.2.2.1 = 0 → TP X.1 Y.1 lo X.2.1 ∧ kp8 y.1 Y.1)
theorem TS.no {X : fS} {Y : gsS} (h : TS T w b lo x y X Y) : TE T w b lo x y X Y := ⟨h.1, h.2.1, fun q => ⟨⟨_, (h.2.2 q).1, Int.le_refl _, Or.inr ⟨by have := (h.2.2 q).2.1.2.2.2.1; omega, (h.2.2 q).2.1.2.1, (h.2.2 q).2.1.2.2.1, (h.2.2 q).2.1.1⟩⟩, (h.2.2 q).2.2⟩⟩
theorem z_same {X : fS} {Y : gsS} (h : TS T w b lo x y X Y) : TE T w b lo x y (upF X.1 8 1, X.2) (upF Y.1 17 1, Y.2) := by
  refine ⟨h.1, h.2.1, fun q => ?_⟩
  obtain ⟨q1, q2, q3⟩ := h.2.2 q
  refine ⟨⟨_, (q1.ups (Or.inr (by decide))).upf (by decide), Int.le_refl _, Or.inr ?_⟩, q3.up (by decide)⟩
  obtain ⟨z1, z2, z3, z4, z5⟩ := q2
  refine ⟨?_, ?_, ?_, ?_⟩ <;> simp [upF] <;> omega
/-- the offset's hours -/
theorem oh_same {X : fS} {Y : gsS} (h : TS T w b lo x y X Y) (hc : lk T X.2 = 43 ∨ lk T X.2 = 45) : RP T w b (ohF T X).2 (tz1G T Y).2 ∧ bs X.2 (ohF T X).2 ∧ ((ohF T X).2.2.1 = 0 → TQ (ohF T X).1 (tz1G T Y).1 lo X.2.1 ∧ ZP (ohF T X).1 (tz1G T Y).1 X.2.1 (ohF T X).2.1 ∧ kp8 Y.1 (tz1G T Y).1 ∧ (ohF T X).1 13 = 0) := by
  have ad : ∃ c, 0 ≤ c ∧ lk T X.2 = c := by rcases hc with e | e; exact ⟨43, by decide, e⟩; exact ⟨45, by decide, e⟩
  obtain ⟨c, c0, ce⟩ := ad
  obtain ⟨a1, a2, a3, a4, a5⟩ := h.1.takes c0 ce
  have gd := h.1.good a4
  have e45 : (if lk T X.2 = 45 then (1 : Int) else 0) = (if byI T Y.2.1 = 45 then 1 else 0) := by rw [lk_0 a4, gd.1]
  obtain ⟨n1, n2, n3⟩ := RP.nm (x := (upF (upF X.1 8 0) 9 (if lk T X.2 = 45 then 1 else 0), (X.2.1 + 1, X.2.2))) (y := (upF (upF Y.1 22 (if byI T Y.2.1 = 45 then 1 else 0)) 17 2, (Y.2.1 + 1, Y.2.2))) 11 10 18 2 a3
  have e1 : ohF T X = nmF T 11 10 (2 : Nat) 2 (upF (upF X.1 8 0) 9 (if lk T X.2 = 45 then 1 else 0), (X.2.1 + 1, X.2.2)) := rfl
  have e2 : tz1G T Y = nuG T 18 2 (upF (upF Y.1 22 (if byI T Y.2.1 = 45 then 1 else 0)) 17 2, (Y.2.1 + 1, Y.2.2)) := rfl
  rw [← e1, ← e2] at n1 n3
  rw [← e1] at n2
  refine ⟨n1, bs.trans a5 n2, fun q => ?_⟩
  obtain ⟨v, v1, v2, v3, v4⟩ := n3 q
  have b2 : X.2.1 + 1 ≤ (ohF T X).2.1 := (n2 q).2
  have v2' : v ≤ 99 := Int.le_trans v2 (by decide)
  obtain ⟨q1, ⟨z1, z2, z3, z4, z5⟩, q3⟩ := h.2.2 a4
  rw [v3, v4]
  dsimp only
  rw [← e45]
  have hs : ((if lk T X.2 = 45 then (1 : Int) else 0) = 1) ∨ ((if lk T X.2 = 45 then (1 : Int) else 0) = 0) := by split; exact Or.inl rfl; exact Or.inr rfl
  generalize (if lk T X.2 = 45 then (1 : Int) else 0) = sg at hs
  refine ⟨((((q1.ups (Or.inr (by decide))).ups (Or.inr (by decide))).ups (Or.inr (by decide))).ups (Or.inr (by decide))).upf (by decide) |>.upf (by decide) |>.upf (by decide) |>.upf (by decide), Or.inl ?_, (((kp8.rfl'.up (by decide)).up (by decide)).up (by decide)).up (by decide), by simp [upF] <;> omega⟩
  refine ⟨?_, ?_, ?_, ?_, ?_, ?_, ?_, ?_⟩ <;> simp [upF] <;> omega
theorem om_same {X : fS} {Y : gsS} {m : Int} {z : gsS} (h : RP T w b X.2 Y.2) (hq : X.2.2.1 = 0 → TQ X.1 Y.1 lo m ∧ m ≤ X.2.1 ∧ ZP X.1 Y.1 m X.2.1 ∧ Y.1 17 = 2 ∧ X.1 13 = 0 ∧ kp8 z.1 Y.1) : RP T w b (omF T X).2 (nuG T 20 2 Y).2 ∧ bs X.2 (omF T X).2 ∧ ((omF T X).2.2.1 = 0 → TP (omF T X).1 (nuG T 20 2 Y).1 lo (omF T X).2.1 ∧ kp8 z.1 (nuG T 20 2 Y).1) := by
  obtain ⟨n1, n2, n3⟩ := RP.nm (x := X) (y := Y) 13 12 20 2 h
  have e1 : omF T X = nmF T 13 12 (2 : Nat) 2 X := rfl
  rw [← e1] at n1 n2 n3
  refine ⟨n1, n2, fun q => ?_⟩
  obtain ⟨v, v1, v2, v3, v4⟩ := n3 q
  have b0 := n2 q
  have v2' : v ≤ 99 := Int.le_trans v2 (by decide)
  obtain ⟨q1, q2, q3, q4, q5, q6⟩ := hq b0.1
  rw [v3, v4]
  refine ⟨⟨m, ((q1.ups (Or.inr (by decide))).ups (Or.inr (by decide))).upf (by decide) |>.upf (by decide), by omega, Or.inl ?_⟩, (q6.up (by decide)).up (by decide)⟩
  rcases q3 with q3 | q3
  · obtain ⟨g1, g2, g3, g4, g5, g6, g7, g8⟩ := q3
    refine ⟨?_, ?_, ?_, ?_, ?_, ?_, ?_, ?_⟩ <;> simp [upF] <;> omega
  · exact absurd q4 q3.1
theorem of2_same {fd wa m : Int} {X : fS} {Y : gsS} {z : gsS} (h : RP T w b X.2 Y.2) (hf : X.2.2.1 = 0 → fd = wa) (hq : X.2.2.1 = 0 → TQ X.1 Y.1 lo m ∧ m ≤ X.2.1 ∧ ZP X.1 Y.1 m X.2.1 ∧ Y.1 17 = 2 ∧ X.1 13 = 0 ∧ kp8 z.1 Y.1) : RP T w b (of2F T fd X).2 (tz2G T wa Y).2 ∧ bs X.2 (of2F T fd X).2 ∧ ((of2F T fd X).2.2.1 = 0 → TP (of2F T fd X).1 (tz2G T wa Y).1 lo (of2F T fd X).2.1 ∧ kp8 z.1 (tz2G T wa Y).1) := by
  rcases h.b01 with hb | hb
  · have hf := hf hb
    subst hf
    have gd := h.good hb
    obtain ⟨q1, q2, q3, q4, q5, q6⟩ := hq hb
    have plain : RP T w b (of3F T fd X).2 (if (Y.2.2.1 < 0 ∧ fd ≠ 1) ∧ isD (byI T Y.2.1) then nuG T 20 2 Y else Y).2 ∧ bs X.2 (of3F T fd X).2 ∧ ((of3F T fd X).2.2.1 = 0 → TP (of3F T fd X).1 (if (Y.2.2.1 < 0 ∧ fd ≠ 1) ∧ isD (byI T Y.2.1) then nuG T 20 2 Y else Y).1 lo (of3F T fd X).2.1 ∧ kp8 z.1 (if (Y.2.2.1 < 0 ∧ fd ≠ 1) ∧ isD (byI T Y.2.1) then nuG T 20 2 Y else Y).1) := by
      unfold of3F
      by_cases c : fd ≠ 1 ∧ 0 ≤ dgF T X.2
      · have c' := h.dg.mp c.2
        rw [if_pos c, if_pos ⟨⟨c'.1, c.1⟩, c'.2⟩]
        exact om_same h hq
      · rw [if_neg c, if_neg (fun q => c ⟨q.1.2, h.dg.mpr ⟨q.1.1, q.2⟩⟩)]
        exact ⟨h, bs.rfl', fun _ => ⟨⟨m, q1, q2, q3⟩, q6⟩⟩
    unfold of2F tz2G
    by_cases m2 : fd = 2
    · rw [if_pos m2, if_neg (fun q : (Y.2.2.1 < 0 ∧ fd ≠ 2) ∧ byI T Y.2.1 = 58 => q.1.2 m2)]
      exact plain
    · rw [if_neg m2]
      by_cases c : lk T X.2 = 58
      · obtain ⟨a1, a2, a3, a4, a5⟩ := h.takes (by decide) c
        have c' := (h.lkc (by decide)).mp c
        rw [a1]
        dsimp only
        rw [if_pos (show (1 : Int) = 1 from rfl), if_pos ⟨⟨c'.1, m2⟩, c'.2⟩]
        have zz : ZP X.1 Y.1 m (X.2.1 + 1) := by
          rcases q3 with q3 | q3
          · obtain ⟨g1, g2, g3, g4, g5, g6, g7, g8⟩ := q3
            exact Or.inl ⟨g1, g2, g3, fun q => (by have := g4 q; omega), fun q => (by have := g5 q; omega), g6, g7, g8⟩
          · exact Or.inr q3
        have := om_same (lo := lo) (m := m) (z := z) (X := (X.1, (X.2.1 + 1, X.2.2))) (Y := ad1 Y) a3 (fun _ => ⟨q1, by dsimp only; omega, zz, q4, q5, q6⟩)
        exact ⟨this.1, bs.trans a5 this.2.1, this.2.2⟩
      · obtain ⟨a1, a2⟩ := h.not_takes (by decide) c
        rw [a1]
        dsimp only
        rw [if_neg (show ¬ (0 : Int) = 1 by decide), if_neg (fun q : (Y.2.2.1 < 0 ∧ fd ≠ 2) ∧ byI T Y.2.1 = 58 => c ((h.lkc (by decide)).mpr ⟨q.1.1, q.2⟩))]
        exact plain
  · have gn := h.brk hb
    have e1 : of3F T fd X = X := by
      unfold of3F
      rw [if_neg (fun q => by have := (h.dg.mp q.2).1; omega)]
    have e2 : of2F T fd X = X := by
      unfold of2F
      rw [(tkF_n (T := T) (c := 58) (s := X.2) (by rw [lk_1 (by omega)]; decide))]
      dsimp only
      rw [if_neg (show ¬ (0 : Int) = 1 by decide)]
      split
      · exact e1
      · exact e1
    have e3 : tz2G T wa Y = Y := by
      unfold tz2G
      rw [if_neg (fun q => by have := q.1.1; omega), if_neg (fun q => by have := q.1.1; omega)]
    rw [e2, e3]
    exact ⟨h, bs.rfl', fun q => by omega⟩
theorem of_same {fd wa : Int} {X : fS} {Y : gsS} (h : TS T w b lo x y X Y) (hf : X.2.2.1 = 0 → fd = wa) : TE T w b lo x y (ofF9 T fd X) (tzG T wa Y) := by
  unfold ofF9 tzG
  by_cases c : lk T X.2 = 90
  · obtain ⟨a1, a2, a3, a4, a5⟩ := h.1.takes (by decide) c
    rw [a1, a2]
    dsimp only
    rw [if_pos (show (1 : Int) = 1 from rfl), if_pos (show (1 : Int) = 1 from rfl)]
    exact z_same (h.step a3 a5)
  · obtain ⟨a1, a2⟩ := h.1.not_takes (by decide) c
    rw [a1, a2]
    dsimp only
    rw [if_neg (show ¬ (0 : Int) = 1 by decide), if_neg (show ¬ (0 : Int) = 1 by decide)]
    unfold tz0G
    by_cases d : lk T X.2 = 43 ∨ lk T X.2 = 45
    · have d' : Y.2.2.1 < 0 ∧ (byI T Y.2.1 = 43 ∨ byI T Y.2.1 = 45) := by
        rcases d with e | e
        · have := (h.1.lkc (by decide)).mp e; exact ⟨this.1, Or.inl this.2⟩
        · have := (h.1.lkc (by decide)).mp e; exact ⟨this.1, Or.inr this.2⟩
      rw [if_pos d, if_pos d']
      obtain ⟨o1, o2, o3⟩ := oh_same h d
      have := of2_same (lo := lo) (m := X.2.1) (z := y) (fd := fd) (wa := wa) o1 (fun q => hf (o2 q).1) (fun q => by
        obtain ⟨p1, p2, p3, p4⟩ := o3 q
        refine ⟨p1, (o2 q).2, p2, ?_, p4, (h.2.2 (o2 q).1).2.2.trans p3⟩
        unfold tz1G nuG
        simp [upF])
      exact ⟨this.1, bs.trans h.2.1 (bs.trans o2 this.2.1), this.2.2⟩
    · rw [if_neg d, if_neg (fun q => d (by rcases q.2 with e | e; exact Or.inl ((h.1.lkc (by decide)).mpr ⟨q.1, e⟩); exact Or.inr ((h.1.lkc (by decide)).mpr ⟨q.1, e⟩)))]
      exact h.no
theorem tm_same {mk mo : Int} (h : RP T w b x.2 y.2) (hm : x.2.2.1 = 0 → mk = mo) (g1 : y.1 11 = 0 ∧ y.1 13 = 0 ∧ y.1 16 = 0 ∧ y.1 17 = 0 ∧ y.1 20 = 0) : TE T w b x.2.1 x y (tmF9 T mk x) (trG T mo y) := by
  obtain ⟨s0, s3, s5⟩ := h_same h g1 3600 0
  have s1 := ms_same (mk := mk) (mo := mo) s0.1 (fun q => hm (s0.2.1 q).1) (fun q => ⟨(s0.2.2 q).1, (s0.2.2 q).2.1⟩) (by simp [upF]; exact s5)
  have t1 := s0.trans s1.1
  have t2 := t1.trans (pa_same t1.1 (fun q => ⟨(t1.2.2 q).1, (t1.2.2 q).2.1⟩))
  exact of_same t2 (fun q => s1.2 ((pa_same t1.1 (fun q => ⟨(t1.2.2 q).1, (t1.2.2 q).2.1⟩)).2.1 q).1)
/-- a time of RFC 3339 -/
theorem oz_same {X : fS} {Y : gsS} (h : TS T w b lo x y X Y) : TE T w b lo x y (ozF T X) (rp4G T Y) := by
  unfold ozF rp4G
  by_cases c : lk T X.2 = 90
  · obtain ⟨a1, a2, a3, a4, a5⟩ := h.1.takes (by decide) c
    have c' := (h.1.lkc (by decide)).mp c
    rw [a1]
    dsimp only
    rw [if_pos (show (1 : Int) = 1 from rfl), if_pos ⟨c'.1, Or.inl c'.2⟩]
    exact z_same (h.step a3 a5)
  · obtain ⟨a1, a2⟩ := h.1.not_takes (by decide) c
    rw [a1]
    dsimp only
    rw [if_neg (show ¬ (0 : Int) = 1 by decide)]
    by_cases d : lk T X.2 = 122
    · obtain ⟨k1, k2, k3, k4, k5⟩ := h.1.takes (by decide) d
      have d' := (h.1.lkc (by decide)).mp d
      rw [k1]
      dsimp only
      rw [if_pos (show (1 : Int) = 1 from rfl), if_pos ⟨d'.1, Or.inr d'.2⟩]
      exact z_same (h.step k3 k5)
    · obtain ⟨k1, k2⟩ := h.1.not_takes (by decide) d
      rw [k1]
      dsimp only
      rw [if_neg (show ¬ (0 : Int) = 1 by decide), if_neg (fun q : Y.2.2.1 < 0 ∧ (byI T Y.2.1 = 90 ∨ byI T Y.2.1 = 122) => by rcases q.2 with e | e; exact c ((h.1.lkc (by decide)).mpr ⟨q.1, e⟩); exact d ((h.1.lkc (by decide)).mpr ⟨q.1, e⟩))]
      by_cases e : lk T X.2 = 43 ∨ lk T X.2 = 45
      · have e' : Y.2.2.1 < 0 ∧ (byI T Y.2.1 = 43 ∨ byI T Y.2.1 = 45) := by
          rcases e with e | e
          · have := (h.1.lkc (by decide)).mp e; exact ⟨this.1, Or.inl this.2⟩
          · have := (h.1.lkc (by decide)).mp e; exact ⟨this.1, Or.inr this.2⟩
        rw [if_pos e, if_pos e']
        obtain ⟨o1, o2, o3⟩ := oh_same h e
        have x1 := o1.expect (c := 58) (by decide)
        have x2 : bs (ohF T X).2 (ndF T 58 (ohF T X).2) := ndF_bs
        have := om_same (lo := lo) (m := X.2.1) (z := y) (X := ((ohF T X).1, ndF T 58 (ohF T X).2)) (Y := exS T 58 (tz1G T Y)) x1 (fun q => by
          obtain ⟨p1, p2, p3, p4⟩ := o3 (x2 q).1
          have y2 := (x2 q).2
          have y1 := (o2 (x2 q).1).2
          refine ⟨p1, by dsimp only; omega, ?_, ?_, p4, (h.2.2 (o2 (x2 q).1).1).2.2.trans p3⟩
          · dsimp only
            rcases p2 with q3 | q3
            · obtain ⟨g1, g2, g3, g4, g5, g6, g7, g8⟩ := q3
              exact Or.inl ⟨g1, g2, g3, fun q => ⟨(g4 q).1, (g4 q).2.1, by have := (g4 q).2.2; omega⟩, fun q => ⟨(g5 q).1, (g5 q).2.1, (g5 q).2.2.1, by have := (g5 q).2.2.2; omega⟩, g6, g7, g8⟩
            · exact Or.inr q3
          · unfold exS tz1G nuG
            simp [upF])
        exact ⟨this.1, bs.trans h.2.1 (bs.trans o2 (bs.trans x2 this.2.1)), this.2.2⟩
      · rw [if_neg e, if_neg (fun q => e (by rcases q.2 with e | e; exact Or.inl ((h.1.lkc (by decide)).mpr ⟨q.1, e⟩); exact Or.inr ((h.1.lkc (by decide)).mpr ⟨q.1, e⟩)))]
        exact ⟨h.1.fail, fun q => absurd q (by show ¬ (1 : Int) = 0; decide), fun q => absurd q (by show ¬ (1 : Int) = 0; decide)⟩
theorem TS.need {X : fS} {Y : gsS} {c : Int} (h : TS T w b lo x y X Y) (hc : 0 ≤ c) : TS T w b lo x y (X.1, ndF T c X.2) (exS T c Y) := h.step (h.1.expect hc) ndF_bs
theorem tf_same (h : RP T w b x.2 y.2) (g1 : y.1 11 = 0 ∧ y.1 13 = 0 ∧ y.1 16 = 0 ∧ y.1 17 = 0 ∧ y.1 20 = 0) : TE T w b x.2.1 x y (tfF T x) (rp4G T (rp3G T (rp2G T y))) := by
  obtain ⟨s0, s3, s5⟩ := h_same h g1 ((tsF T x).1 7) 2
  have e7 : upF (tsF T x).1 7 ((tsF T x).1 7) = (tsF T x).1 := by
    funext k
    unfold upF
    split
    · rename_i q; rw [q]
    · rfl
  rw [e7] at s0
  have s0' : TS T w b x.2.1 x y (tsF T x) (nuG T 9 2 (upF (upF y.1 8 1) 15 2, y.2)) := s0
  have s1 := s0'.need (c := 58) (by decide)
  have s2 : TS T w b x.2.1 x y (miF T ((tsF T x).1, ndF T 58 (tsF T x).2)) (nuG T 11 2 (exS T 58 (nuG T 9 2 (upF (upF y.1 8 1) 15 2, y.2)))) :=
    s1.bind (fun q => (mi_same s1.1 (s1.2.2 q).1 (s1.2.2 q).2.1 s5).1) (fun q => nm_brk (x := (upF (tsF T x).1 7 60, ndF T 58 (tsF T x).2)) (k := 3) (ka := 2) (k' := 11) (n := 2) s1.1 q)
  have s4 := s2.need (c := 58) (by decide)
  have s6 : TS T w b x.2.1 x y (scF9 T ((miF T ((tsF T x).1, ndF T 58 (tsF T x).2)).1, ndF T 58 (miF T ((tsF T x).1, ndF T 58 (tsF T x).2)).2)) (rp2G T y) :=
    s4.bind (fun q => se_same s4.1 (s4.2.2 q).1 (s4.2.2 q).2.1) (fun q => nm_brk (x := (upF (miF T ((tsF T x).1, ndF T 58 (tsF T x).2)).1 7 1, ndF T 58 (miF T ((tsF T x).1, ndF T 58 (tsF T x).2)).2)) (k := 5) (ka := 4) (k' := 13) (n := 2) s4.1 q)
  have s7 := s6.trans (pd_same s6.1 (fun q => ⟨(s6.2.2 q).1, (s6.2.2 q).2.1⟩))
  exact oz_same s7
end TMS

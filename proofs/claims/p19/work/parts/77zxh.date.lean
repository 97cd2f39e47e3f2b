/-! p19: a date, class and reference -/
theorem tkF_w9 {T : List Int} {c : Int} {s : uS} : (tkF T c s).2.2.2 = s.2.2 := by unfold tkF; split <;> rfl
theorem nbF_w9 {T : List Int} {ld : Int} (n : Nat) : ∀ {i v : Int} {s : uS}, (nbF T ld n i v s).2.2.2 = s.2.2 := by
  induction n with
  | zero => intro i v s; rfl
  | succ n ih =>
    intro i v s
    show (if _ then _ else _ : Int × uS).2.2.2 = _
    split
    · rfl
    · exact ih (s := (s.1 + 1, s.2))
theorem nb_at {T : List Int} {ld : Int} (n : Nat) : ∀ {i v : Int} {s : uS}, i + n = ld → (nbF T ld n i v s).2.2.1 = 0 → (nbF T ld n i v s).2.1 = s.1 + n := by
  induction n with
  | zero => intro i v s _ _; show s.1 = s.1 + 0; omega
  | succ n ih =>
    intro i v s hi h
    have h : (if _ then _ else _ : Int × uS).2.2.1 = 0 := h
    show (if _ then _ else _ : Int × uS).2.1 = _
    split at h
    · dsimp only at h
      rw [if_pos (Or.inr (by omega))] at h
      cases h
    · rename_i g
      rw [if_neg g]
      have := ih (i := i + 1) (v := v * 10 + dgF T s) (s := (s.1 + 1, s.2)) (by omega) h
      rw [this]
      show s.1 + 1 + (n : Int) = s.1 + ((n + 1 : Nat) : Int)
      omega
theorem nb_at3 {T : List Int} {s : uS} (h : (nbF T 3 3 0 0 s).2.2.1 = 0) : (nbF T 3 3 0 0 s).2.1 = s.1 + 3 := nb_at 3 (by decide) h
theorem enF_w {kd wh : Int} {x : fS} : (enF kd wh x).2.2.2 = x.2.2.2 := by unfold enF; dsimp only; split <;> rfl
theorem laF_w {T : List Int} {kd li : Int} {n : Nat} {x : fS} : (laF T kd li n x).2.2.2 = x.2.2.2 := nbF_w9 n
theorem wkF_w {T : List Int} {wh : Int} {x : fS} : (wkF T wh x).2.2.2 = x.2.2.2 := by
  have a : (nmF T 7 6 2 2 x).2.2.2 = x.2.2.2 := nbF_w9 2
  unfold wkF
  split
  · split
    · rw [laF_w]; dsimp only; rw [tkF_w9]; exact a
    · rw [enF_w]; dsimp only; rw [tkF_w9]; exact a
  · split
    · rw [laF_w]; exact a
    · rw [enF_w]; exact a
theorem daF_w {T : List Int} {wh : Int} {x : fS} : (daF T wh x).2.2.2 = x.2.2.2 := by
  have a : (nmF T 7 6 2 2 x).2.2.2 = x.2.2.2 := nbF_w9 2
  unfold daF
  split
  · rw [laF_w]; dsimp only; rw [tkF_w9]; exact a
  · split
    · dsimp only; rw [nbF_w9, tkF_w9]; exact a
    · rw [enF_w]; dsimp only; rw [tkF_w9]; exact a
theorem plF9_w {T : List Int} {x : fS} : (plF9 T x).2.2.2 = x.2.2.2 := by
  unfold plF9
  split
  · dsimp only; rw [nbF_w9, nbF_w9]
  · dsimp only; rw [nbF_w9]
theorem beF_w {T : List Int} {wh : Int} {x : fS} : (beF T wh x).2.2.2 = x.2.2.2 := by
  unfold beF
  split
  · split
    · rw [wkF_w]; dsimp only; rw [tkF_w9]
    · split
      · rw [daF_w]; dsimp only; rw [tkF_w9]
      · split
        · rw [plF9_w]; dsimp only; rw [tkF_w9]
        · rw [enF_w]; dsimp only; rw [tkF_w9]
  · rw [enF_w]
/-- behind the year -/
def YP (f g : fN) (lo hi : Int) : Prop := g 2 = tlF f ∧ g 3 = f 2 ∧ g 1 = 3 ∧ (f 4 = 0 ∨ f 4 = 1) ∧ (0 ≤ f 5 ∧ f 5 ≤ 999999) ∧ (lo ≤ f 2 ∧ f 2 ≤ hi) ∧ f 7 = 1 ∧ f 9 = 1
/-- behind the date -/
def DP (f g : fN) (lo hi : Int) : Prop :=
  (g 1 = f 0 ∧ 0 ≤ f 0 ∧ f 0 ≤ 5) ∧ g 2 = tlF f ∧ (f 4 = 0 ∨ f 4 = 1) ∧ (0 ≤ f 5 ∧ f 5 ≤ 999999)
  ∧ ((f 4 = 1 ∧ f 5 = 0) ∨ f 0 = 1 ∨ f 0 = 5 → g 3 = f 2 ∧ lo ≤ f 2 ∧ f 2 ≤ hi ∧ (f 0 ≠ 3 → f 2 ≤ f 6))
  ∧ (f 0 ≠ 3 → g 4 = f 7 ∧ g 5 = f 6 ∧ lo ≤ f 6 ∧ f 6 ≤ hi)
  ∧ ((f 0 = 0 ∨ f 0 = 1) → g 6 = f 9 ∧ g 7 = f 8 ∧ f 6 ≤ f 8 ∧ f 8 ≤ hi)
  ∧ (f 0 = 3 → f 7 = 1 ∧ f 9 = 1) ∧ (f 0 = 4 ∨ f 0 = 5 → f 9 = 1)
def dMq (f f' : fN) : Prop := f' 4 = f 4 ∧ f' 5 = f 5 ∧ f' 2 = f 2 ∧ f' 1 = f 1
theorem tl_eq {f f' : fN} (h4 : f' 4 = f 4) (h5 : f' 5 = f 5) : tlF f' = tlF f := by unfold tlF; rw [h4, h5]
/-- a date out of its fields' values -/
theorem DP.mk' {f0 g0 f g : fN} {lo hi h0 : Int} (hy : YP f0 g0 lo h0) (hm : dMq f0 f) (hg2 : g 2 = g0 2) (hg3 : g 3 = g0 3) (h1 : g 1 = f 0 ∧ 0 ≤ f 0 ∧ f 0 ≤ 5) (hh : h0 ≤ hi)
    (hA : f 0 ≠ 3 → g 4 = f 7 ∧ g 5 = f 6 ∧ h0 ≤ f 6 ∧ f 6 ≤ hi) (hB : (f 0 = 0 ∨ f 0 = 1) → g 6 = f 9 ∧ g 7 = f 8 ∧ f 6 ≤ f 8 ∧ f 8 ≤ hi) (hC : f 0 = 3 → f 7 = 1 ∧ f 9 = 1) (hD : f 0 = 4 ∨ f 0 = 5 → f 9 = 1) : DP f g lo hi := by
  obtain ⟨y1, y2, y3, y4, y5, y6, y7, y8⟩ := hy
  obtain ⟨m1, m2, m3, m4⟩ := hm
  have e := tl_eq m1 m2
  refine ⟨h1, by rw [hg2, y1, e], by rw [m1]; exact y4, by rw [m2]; exact y5, fun _ => ⟨by rw [hg3, y2, m3], by omega, by omega, fun q => ?_⟩, fun q => ?_, hB, hC, hD⟩
  · have := hA q; omega
  · have := hA q; exact ⟨this.1, this.2.1, by omega, this.2.2.2⟩
/-- the year -/
theorem yr_same {T : List Int} {w b : Int} {x : fS} {y : gsS} (h : RP T w b x.2 y.2) (h7 : x.1 7 = 1) (h9 : x.1 9 = 1) : ∃ b', RP T w b' (yrF T x).2 (yrG T y).2 ∧ bs x.2 (yrF T x).2 ∧ ((yrF T x).2.2.1 = 0 → YP (yrF T x).1 (yrG T y).1 x.2.1 (yrF T x).2.1 ∧ (yrF T x).1 3 = sdI T y.2 ∧ (b' = if (yrF T x).1 4 = 1 ∧ (yrF T x).1 5 = 0 then mnI ((yrF T x).1 2) b else b)) := by
  have fin : ∀ (ng sd v : Int) (m : Nat) (s1 r1 : uS), (ng = 0 ∨ ng = 1) → (m = 4 ∨ m = 6) → sdI T y.2 = sd → ngI T y.2 = ng → RP T w b s1 r1 → bs x.2 s1 → yqG T y.2 = dgG T m 0 r1 → yrF T x = (upF (upF (upF (upF x.1 2 x.2.1) 4 ng) 3 sd) 5 (nbF T m m 0 0 s1).1, (nbF T m m 0 0 s1).2) → ∃ b', RP T w b' (yrF T x).2 (yrG T y).2 ∧ bs x.2 (yrF T x).2 ∧ ((yrF T x).2.2.1 = 0 → YP (yrF T x).1 (yrG T y).1 x.2.1 (yrF T x).2.1 ∧ (yrF T x).1 3 = sdI T y.2 ∧ (b' = if (yrF T x).1 4 = 1 ∧ (yrF T x).1 5 = 0 then mnI ((yrF T x).1 2) b else b)) := by
    intro ng sd v m s1 r1 hng hm hsd hn1 hp hbs hq hF
    obtain ⟨d1, d2⟩ := RP.digits (ld := (m : Int)) m (i := 0) (v := 0) hp (by omega)
    have hb2 := bs.trans hbs (nbF_bs (T := T) (ld := (m : Int)) m (i := 0) (v := 0) (s := s1))
    have u : 0 ≤ (nbF T m m 0 0 s1).1 ∧ (nbF T m m 0 0 s1).1 ≤ 999999 := by
      have := nbF_up (T := T) (ld := (m : Int)) m (i := 0) (v := 0) (s := s1) (M := 0) (by decide) (by decide)
      rcases hm with e | e <;> subst e <;> exact ⟨this.1, Int.le_trans this.2 (by decide)⟩
    unfold yrG
    rw [hn1, hq, hF]
    dsimp only
    generalize hN : nbF T m m 0 0 s1 = N at d1 d2 hb2 u ⊢
    generalize hM : dgG T m 0 r1 = M at d1 d2 ⊢
    refine ⟨(yzG y.2.1 ng M).2.2, ?_, hb2, fun q => ?_⟩
    · unfold yzG
      split
      · exact ⟨d1.1, rfl, d1.2.2⟩
      · exact ⟨d1.1, rfl, d1.2.2⟩
    · have q' : N.2.2.1 = 0 := q
      have e := d2 q'
      have gd := d1.good q'
      have b0 := hb2 q'
      have gx := h.good b0.1
      refine ⟨?_, ?_, ?_⟩
      · rw [← e, gx.1]
        have b2 : x.2.1 ≤ N.2.1 := b0.2
        unfold YP tlF
        refine ⟨?_, ?_, ?_, ?_, ?_, ?_, ?_, ?_⟩ <;> simp [upF] <;> omega
      · rw [hsd]; simp [upF]
      · have u4 : upF (upF (upF (upF x.1 2 x.2.1) 4 ng) 3 sd) 5 N.1 4 = ng := by simp [upF]
        have u5 : upF (upF (upF (upF x.1 2 x.2.1) 4 ng) 3 sd) 5 N.1 5 = N.1 := by simp [upF]
        have u2 : upF (upF (upF (upF x.1 2 x.2.1) 4 ng) 3 sd) 5 N.1 2 = x.2.1 := by simp [upF]
        simp only [u4, u5, u2]
        unfold yzG
        rw [← e, gx.1]
        by_cases g1 : ng = 1 ∧ N.1 = 0
        · rw [if_pos ⟨g1.1, g1.2, by omega⟩, if_pos g1]
          show (if x.2.1 < M.2.2.2 then x.2.1 else M.2.2.2) = mnI x.2.1 b
          rw [d1.2.1]
          all_goals rfl
        · rw [if_neg (fun g => g1 ⟨g.1, g.2.1⟩), if_neg g1]
          exact d1.2.1
  rcases h.b01 with hb | hb
  · have gd := h.good hb
    by_cases c5 : lk T x.2 = 45
    · obtain ⟨a1, a2, a3, -, a5⟩ := h.takes (by decide) c5
      have c5' := ((h.lkc (by decide)).mp c5).2
      have e1 : sdI T y.2 = 1 := by unfold sdI; rw [if_pos (Or.inr c5')]
      have e2 : ngI T y.2 = 1 := by unfold ngI; rw [if_pos c5']
      have e3 : sgA T y.2 = (y.2.1 + 1, y.2.2) := by unfold sgA; rw [if_pos ⟨e1, by omega⟩]
      refine fin 1 1 0 6 _ _ (Or.inr rfl) (Or.inr rfl) e1 e2 a3 a5 ?_ ?_
      · unfold yqG; rw [if_pos e1, e3]
      · unfold yrF
        rw [a1]
        dsimp only
        rw [if_pos (show (1 : Int) = 1 from rfl)] <;> rfl
    · obtain ⟨a1, a2⟩ := h.not_takes (by decide) c5
      have c5' : ¬ byI T y.2.1 = 45 := fun q => c5 ((h.lkc (by decide)).mpr ⟨by omega, q⟩)
      have e2 : ngI T y.2 = 0 := by unfold ngI; rw [if_neg c5']
      by_cases c3 : lk T x.2 = 43
      · obtain ⟨k1, k2, k3, -, k5⟩ := h.takes (by decide) c3
        have c3' := ((h.lkc (by decide)).mp c3).2
        have e1 : sdI T y.2 = 1 := by unfold sdI; rw [if_pos (Or.inl c3')]
        have e3 : sgA T y.2 = (y.2.1 + 1, y.2.2) := by unfold sgA; rw [if_pos ⟨e1, by omega⟩]
        refine fin 0 1 0 6 _ _ (Or.inl rfl) (Or.inr rfl) e1 e2 k3 k5 ?_ ?_
        · unfold yqG; rw [if_pos e1, e3]
        · unfold yrF
          rw [a1]
          dsimp only
          rw [if_neg (show ¬ (0 : Int) = 1 by decide), k1]
          dsimp only
          rw [if_pos (show (1 : Int) = 1 from rfl)] <;> rfl
      · obtain ⟨k1, k2⟩ := h.not_takes (by decide) c3
        have c3' : ¬ byI T y.2.1 = 43 := fun q => c3 ((h.lkc (by decide)).mpr ⟨by omega, q⟩)
        have e1 : sdI T y.2 = 0 := by unfold sdI; rw [if_neg (fun q => q.elim c3' c5')]
        have e3 : sgA T y.2 = y.2 := by unfold sgA; rw [if_neg (fun q => by omega)]
        refine fin 0 0 0 4 _ _ (Or.inl rfl) (Or.inl rfl) e1 e2 h bs.rfl' ?_ ?_
        · unfold yqG; rw [if_neg (by omega), e3]
        · unfold yrF
          rw [a1]
          dsimp only
          rw [if_neg (show ¬ (0 : Int) = 1 by decide), k1]
          dsimp only
          rw [if_neg (show ¬ (0 : Int) = 1 by decide)] <;> rfl
  · have gn := h.brk hb
    obtain ⟨z1, z2⟩ := yrF_fz (T := T) (x := x) hb
    have e3 : sgA T y.2 = y.2 := by unfold sgA; rw [if_neg (fun q => by omega)]
    have e4 : ∃ v, yqG T y.2 = (v, y.2) := by
      unfold yqG
      rw [e3]
      split
      · exact ⟨0, dgG_1 (by omega)⟩
      · exact ⟨0, dgG_1 (by omega)⟩
    obtain ⟨v, e4⟩ := e4
    have e5 : (yrG T y).2 = y.2 := by
      unfold yrG yzG
      rw [e4]
      dsimp only
      rw [if_neg (fun q => by omega)]
    have e6 : (yrF T x).2.2.2 = x.2.2.2 := by
      unfold yrF
      rw [(tkF_n (T := T) (c := 45) (s := x.2) (by rw [lk_1 (by omega)]; decide))]
      dsimp only
      rw [(tkF_n (T := T) (c := 43) (s := x.2) (by rw [lk_1 (by omega)]; decide))]
      dsimp only
      rw [if_neg (by decide), if_neg (by decide)]
      dsimp only
      rw [nbF_1 hb]
    refine ⟨b, ⟨by rw [e6]; exact h.1, by rw [e5]; exact h.2.1, Or.inr ⟨z2, by rw [e5, z1]; exact gn.1, by rw [z1]; exact gn.2⟩⟩, fun q => by omega, fun q => by omega⟩
theorem nb_fail {T : List Int} {n : Nat} {s : uS} {ld : Int} (h : ¬ 0 ≤ dgF T s) (hl : 0 < ld) : (nbF T ld (n + 1) 0 0 s).2 = flF s := by
  show (if _ then _ else _ : Int × uS).2 = _
  rw [if_pos (by omega), if_pos (Or.inr hl)]
  all_goals rfl
theorem dMq.rfl' {f : fN} : dMq f f := ⟨rfl, rfl, rfl, rfl⟩
/-- a week -/
theorem wk_same {T : List Int} {w b wh lo h0 : Int} {x : fS} {y : gsS} (h : RP T w b x.2 y.2) (hw : wh = 0 ∨ wh = 1) (hf1 : x.1 1 = 0 ∨ x.1 1 = 1) (hY : YP x.1 y.1 lo h0) (hh : h0 ≤ x.2.1) : RP T w b (wkF T wh x).2 (wkG T wh (x.1 1) y).2 ∧ bs x.2 (wkF T wh x).2 ∧ ((wkF T wh x).2.2.1 = 0 → DP (wkF T wh x).1 (wkG T wh (x.1 1) y).1 lo (wkF T wh x).2.1 ∧ dMq x.1 (wkF T wh x).1) := by
  obtain ⟨n1, n2, n3⟩ := RP.nm (x := x) (y := (upF y.1 1 5, y.2)) 7 6 4 2 h
  have eM : wk1G T y = nuG T 4 2 (upF y.1 1 5, y.2) := rfl
  generalize hM : nuG T 4 2 (upF y.1 1 5, y.2) = M at n1 n3 eM
  unfold wkF wkG
  rw [eM]
  have eN : nmF T 7 6 2 2 x = nmF T 7 6 (2 : Nat) 2 x := rfl
  rw [eN]
  generalize hN : nmF T 7 6 (2 : Nat) 2 x = N at n1 n2 n3 ⊢
  have hY9 := hY.2.2.2.2.2.2.2
  -- no more, and that is well
  have last : ∀ (X : fS), X = enF 5 wh (N.1, N.2) → wh = 0 → RP T w b X.2 M.2 ∧ bs x.2 X.2 ∧ (X.2.2.1 = 0 → DP X.1 M.1 lo X.2.1 ∧ dMq x.1 X.1) := by
    intro X hX h0
    unfold enF at hX
    rw [if_neg (by omega)] at hX
    subst hX
    refine ⟨n1, n2, fun q => ?_⟩
    obtain ⟨v, v1, v2, v3, v4⟩ := n3 q
    dsimp only
    have b0 := n2 q
    have hm : dMq x.1 (upF N.1 0 5) := by rw [v3]; simp [dMq, upF]
    refine ⟨DP.mk' hY hm (by rw [v4]; simp [upF]) (by rw [v4]; simp [upF]) (by rw [v3, v4]; simp [upF]) (by omega) ?_ ?_ ?_ ?_, hm⟩ <;> rw [v3] <;> (try rw [v4]) <;> simp [upF] <;> omega
  -- the weekday
  have more : ∀ (s1 r1 : uS) (g1 : fN) (X : fS) (Y : gsS), RP T w b s1 r1 → bs N.2 s1 → X = laF T 1 1 1 (N.1, s1) → g1 = M.1 → Y = nuG T 6 1 (upF g1 1 1, r1) → RP T w b X.2 Y.2 ∧ bs x.2 X.2 ∧ (X.2.2.1 = 0 → DP X.1 Y.1 lo X.2.1 ∧ dMq x.1 X.1) := by
    intro s1 r1 g1 X Y hp hbs hX hg hY1
    obtain ⟨m1, m2, m3⟩ := RP.nm (x := (upF N.1 0 1, s1)) (y := (upF g1 1 1, r1)) 9 8 6 1 hp
    have eX : X = nmF T 9 8 (1 : Nat) 1 (upF N.1 0 1, s1) := hX
    rw [← eX, ← hY1] at m1 m3
    rw [← eX] at m2
    have hb2 := bs.trans n2 (bs.trans hbs m2)
    refine ⟨m1, hb2, fun q => ?_⟩
    obtain ⟨v, v1, v2, v3, v4⟩ := m3 q
    have c0 := m2 q
    have c1 := hbs c0.1
    have c2 := n2 c1.1
    have c0' : s1.1 ≤ X.2.1 := c0.2
    obtain ⟨u, u1, u2, u3, u4⟩ := n3 c1.1
    subst hg
    dsimp only at v3 v4
    have hm : dMq x.1 X.1 := by rw [v3, u3]; simp [dMq, upF]
    refine ⟨DP.mk' hY hm (by rw [v4, u4]; simp [upF]) (by rw [v4, u4]; simp [upF]) (by rw [v3, v4]; simp [upF]) (by omega) ?_ ?_ ?_ ?_, hm⟩ <;> rw [v3, u3] <;> (try rw [v4, u4]) <;> simp [upF] <;> omega
  -- no more, though it must come
  have none : ∀ (X : fS) (Y : gsS), X = enF 5 wh (N.1, N.2) → wh = 1 → RP T w b (flF N.2) Y.2 → RP T w b X.2 Y.2 ∧ bs x.2 X.2 ∧ (X.2.2.1 = 0 → DP X.1 Y.1 lo X.2.1 ∧ dMq x.1 X.1) := by
    intro X Y hX h1 hp
    unfold enF at hX
    rw [if_pos h1] at hX
    subst hX
    exact ⟨hp, fun q => absurd q (by show ¬ (1 : Int) = 0; decide), fun q => absurd q (by show ¬ (1 : Int) = 0; decide)⟩
  by_cases hd : x.1 1 = 1
  · rw [if_pos hd]
    by_cases c : lk T N.2 = 45
    · obtain ⟨a1, a2, a3, a4, a5⟩ := n1.takes (by decide) c
      have c' := (n1.lkc (by decide)).mp c
      rw [a1]
      dsimp only
      rw [if_pos (show (1 : Int) = 1 from rfl), if_pos (Or.inl ⟨c'.1, Or.inl ⟨hd, c'.2⟩⟩)]
      refine more (N.2.1 + 1, N.2.2) (M.2.1 + 1, M.2.2) M.1 _ _ a3 a5 rfl rfl ?_
      unfold wk2G
      rw [if_pos hd]
      unfold exG
      rw [if_pos c'.1, if_pos (by rw [a2]), a2]
    · obtain ⟨a1, a2⟩ := n1.not_takes (by decide) c
      rw [a1]
      dsimp only
      rw [if_neg (show ¬ (0 : Int) = 1 by decide)]
      have c' : ¬ (M.2.2.1 < 0 ∧ (x.1 1 = 1 ∧ byI T M.2.1 = 45 ∨ ¬ x.1 1 = 1 ∧ isD (byI T M.2.1))) := fun q => c ((n1.lkc (by decide)).mpr ⟨q.1, by rcases q.2 with g | g; exact g.2; exact absurd hd g.1⟩)
      rcases hw with h0 | h1
      · rw [if_neg (fun q => q.elim c' (by omega))]
        exact last _ rfl h0
      · rw [if_pos (Or.inr h1)]
        refine none _ _ rfl h1 ?_
        unfold wk2G
        rw [if_pos hd]
        have e := n1.expect (c := 45) (by decide)
        have e2 : ndF T 45 N.2 = flF N.2 := by unfold ndF; rw [if_neg c]
        rw [e2] at e
        have e3 := (RP.digits (ld := 1) 1 (i := 0) (v := 0) e (by decide)).1
        rw [nbF_1 (show (flF N.2).2.1 = 1 from rfl)] at e3
        exact e3
  · rw [if_neg hd]
    by_cases c : 0 ≤ dgF T N.2
    · have c' := n1.dg.mp c
      rw [if_pos c, if_pos (Or.inl ⟨c'.1, Or.inr ⟨hd, c'.2⟩⟩)]
      refine more N.2 M.2 M.1 _ _ n1 bs.rfl' rfl rfl ?_
      unfold wk2G
      rw [if_neg hd]
    · rw [if_neg c]
      have c' : ¬ (M.2.2.1 < 0 ∧ (x.1 1 = 1 ∧ byI T M.2.1 = 45 ∨ ¬ x.1 1 = 1 ∧ isD (byI T M.2.1))) := fun q => c (n1.dg.mpr ⟨q.1, by rcases q.2 with g | g; exact absurd g.1 hd; exact g.2⟩)
      rcases hw with h0 | h1
      · rw [if_neg (fun q => q.elim c' (by omega))]
        exact last _ rfl h0
      · rw [if_pos (Or.inr h1)]
        refine none _ _ rfl h1 ?_
        unfold wk2G
        rw [if_neg hd]
        have e3 := (RP.digits (ld := 1) 1 (i := 0) (v := 0) n1 (by decide)).1
        rw [nb_fail c (by decide)] at e3
        exact e3
/-- with dashes -/
theorem da_same {T : List Int} {w b wh lo h0 : Int} {x : fS} {y : gsS} (h : RP T w b x.2 y.2) (hw : wh = 0 ∨ wh = 1) (hY : YP x.1 y.1 lo h0) (hh : h0 ≤ x.2.1) : RP T w b (daF T wh x).2 (daG T wh y).2 ∧ bs x.2 (daF T wh x).2 ∧ ((daF T wh x).2.2.1 = 0 → DP (daF T wh x).1 (daG T wh y).1 lo (daF T wh x).2.1 ∧ dMq x.1 (daF T wh x).1) := by
  obtain ⟨n1, n2, n3⟩ := RP.nm (x := x) (y := y) 7 6 4 2 h
  have eN0 : (nbF T 2 2 0 0 x.2).1 = (nmF T 7 6 (2 : Nat) 2 x).1 7 := by
    show _ = upF (upF x.1 6 x.2.1) 7 (nbF T 2 2 0 0 x.2).1 7
    exact up_eq.symm
  unfold daF daG da1G
  have eN : nmF T 7 6 2 2 x = nmF T 7 6 (2 : Nat) 2 x := rfl
  rw [eN0, eN]
  generalize hN : nmF T 7 6 (2 : Nat) 2 x = N at n1 n2 n3 ⊢
  generalize hM : nuG T 4 2 y = M at n1 n3 ⊢
  have hY9 := hY.2.2.2.2.2.2.2
  unfold upS da2G
  dsimp only
  by_cases c : lk T N.2 = 45
  · obtain ⟨a1, a2, a3, a4, a5⟩ := n1.takes (by decide) c
    have c' := (n1.lkc (by decide)).mp c
    rw [a1, a2]
    dsimp only
    rw [if_pos (show (1 : Int) = 1 from rfl), if_neg (show ¬ (M.2.2.1 < 0 ∧ isD (byI T M.2.1)) from fun q => by have := q.2; unfold isD at this; omega), if_pos (show (1 : Int) = 1 from rfl)]
    obtain ⟨m1, m2, m3⟩ := RP.nm (x := (upF N.1 0 0, (N.2.1 + 1, N.2.2))) (y := (upF (upF M.1 1 4) 1 0, (M.2.1 + 1, M.2.2))) 9 8 6 2 a3
    have eX : laF T 0 2 2 (N.1, (N.2.1 + 1, N.2.2)) = nmF T 9 8 (2 : Nat) 2 (upF N.1 0 0, (N.2.1 + 1, N.2.2)) := rfl
    rw [eX]
    generalize nmF T 9 8 (2 : Nat) 2 (upF N.1 0 0, (N.2.1 + 1, N.2.2)) = X at m1 m2 m3 ⊢
    generalize nuG T 6 2 (upF (upF M.1 1 4) 1 0, (M.2.1 + 1, M.2.2)) = Y at m1 m3 ⊢
    refine ⟨m1, bs.trans n2 (bs.trans a5 m2), fun q => ?_⟩
    obtain ⟨v, v1, v2, v3, v4⟩ := m3 q
    have c0 := m2 q
    have c0' : N.2.1 + 1 ≤ X.2.1 := c0.2
    have c2 := n2 a4
    obtain ⟨u, u1, u2, u3, u4⟩ := n3 a4
    dsimp only at v3 v4
    have hm : dMq x.1 X.1 := by rw [v3, u3]; simp [dMq, upF]
    refine ⟨DP.mk' hY hm (by rw [v4, u4]; simp [upF]) (by rw [v4, u4]; simp [upF]) (by rw [v3, v4]; simp [upF]) (by omega) ?_ ?_ ?_ ?_, hm⟩ <;> rw [v3, u3] <;> (try rw [v4, u4]) <;> simp [upF] <;> omega
  · obtain ⟨a1, a2⟩ := n1.not_takes (by decide) c
    rw [a1]
    dsimp only
    rw [if_neg (show ¬ (0 : Int) = 1 by decide)]
    by_cases d : 0 ≤ dgF T N.2
    · have d' := n1.dg.mp d
      rw [if_pos d, if_pos d']
      obtain ⟨m1, m2⟩ := RP.digits (ld := 1) 1 (i := 0) (v := 0) n1 (by decide)
      have m3 := nbF_bs (T := T) (ld := 1) 1 (i := 0) (v := 0) (s := N.2)
      dsimp only
      refine ⟨m1, bs.trans n2 m3, fun q => ?_⟩
      have e := m2 q
      have c0 := m3 q
      have c2 := n2 c0.1
      obtain ⟨u, u1, u2, u3, u4⟩ := n3 c0.1
      rw [← e]
      generalize (nbF T 1 1 0 0 N.2).1 = k
      have hm : dMq x.1 (upF (upF N.1 0 2) 7 (N.1 7 * 10 + k)) := by rw [u3]; simp [dMq, upF]
      have ev : N.1 7 = M.1 4 := by rw [u3, u4]; simp [upF]
      refine ⟨DP.mk' hY hm (by rw [u4]; simp [upF]) (by rw [u4]; simp [upF]) (by simp [upF]) (by omega) ?_ ?_ ?_ ?_, hm⟩
      · rw [u3, u4]; simp [upF] <;> omega
      · simp [upF]
      · simp [upF]
      · simp [upF]
    · have d' : ¬ (M.2.2.1 < 0 ∧ isD (byI T M.2.1)) := fun q => d (n1.dg.mpr q)
      rw [if_neg d, if_neg d', a2, if_neg (show ¬ (0 : Int) = 1 by decide)]
      unfold enF
      dsimp only
      rcases hw with g0 | g1
      · rw [if_neg (by omega), if_neg (by omega)]
        refine ⟨n1, n2, fun q => ?_⟩
        have c2 := n2 q
        obtain ⟨u, u1, u2, u3, u4⟩ := n3 q
        have hm : dMq x.1 (upF N.1 0 4) := by rw [u3]; simp [dMq, upF]
        refine ⟨DP.mk' hY hm (by rw [u4]; simp [upF]) (by rw [u4]; simp [upF]) (by simp [upF]) (by omega) ?_ ?_ ?_ ?_, hm⟩ <;> rw [u3] <;> (try rw [u4]) <;> simp [upF] <;> omega
      · rw [if_pos g1, if_pos g1]
        exact ⟨n1.fail, fun q => absurd q (by show ¬ (1 : Int) = 0; decide), fun q => absurd q (by show ¬ (1 : Int) = 0; decide)⟩
/-- without dashes -/
theorem pl_same {T : List Int} {w b lo h0 : Int} {x : fS} {y : gsS} (h : RP T w b x.2 y.2) (hY : YP x.1 y.1 lo h0) (hh : h0 ≤ x.2.1) : RP T w b (plF9 T x).2 (plG T y).2 ∧ bs x.2 (plF9 T x).2 ∧ ((plF9 T x).2.2.1 = 0 → DP (plF9 T x).1 (plG T y).1 lo (plF9 T x).2.1 ∧ dMq x.1 (plF9 T x).1) := by
  obtain ⟨n1, n3⟩ := RP.digits (ld := 3) 3 (i := 0) (v := 0) h (by decide)
  have n2 := nbF_bs (T := T) (ld := 3) 3 (i := 0) (v := 0) (s := x.2)
  have nu := nbF_up (T := T) (ld := 3) 3 (i := 0) (v := 0) (s := x.2) (M := 0) (by decide) (by decide)
  have n4 : (nbF T 3 3 0 0 x.2).2.2.1 = 0 → (nbF T 3 3 0 0 x.2).2.1 = x.2.1 + 3 := fun q => nb_at3 q
  unfold plF9 plG pl1G pl2G upS nuG
  dsimp only
  generalize hN : nbF T 3 3 0 0 x.2 = N at n1 n2 n3 n4 nu ⊢
  generalize hM : dgG T 3 0 y.2 = M at n1 n3 ⊢
  by_cases d : 0 ≤ dgF T N.2
  · have d' := n1.dg.mp d
    rw [if_pos d, if_pos d']
    obtain ⟨m1, m2⟩ := RP.digits (ld := 1) 1 (i := 0) (v := 0) n1 (by decide)
    have m3 := nbF_bs (T := T) (ld := 1) 1 (i := 0) (v := 0) (s := N.2)
    have mu := nbF_up (T := T) (ld := 1) 1 (i := 0) (v := 0) (s := N.2) (M := 0) (by decide) (by decide)
    dsimp only
    refine ⟨m1, bs.trans n2 m3, fun q => ?_⟩
    have e := m2 q
    have c0 := m3 q
    have c2 := n2 c0.1
    have e2 := n3 c0.1
    have e3 := n4 c0.1
    have gd := n1.good c0.1
    rw [← e, ← e2]
    have gx := (h.good c2.1).1
    have nu2 : N.1 ≤ 999 := Int.le_trans nu.2 (by decide)
    have mu2 : (nbF T 1 1 0 0 N.2).1 ≤ 9 := Int.le_trans mu.2 (by decide)
    have nu1 := nu.1
    have mu1 := mu.1
    have c02 := c0.2
    clear nu mu e hN m1 m2 m3
    generalize (nbF T 1 1 0 0 N.2).1 = k at mu1 mu2 ⊢
    generalize N.1 = v at nu1 nu2 ⊢
    have hm : dMq x.1 (upF (upF (upF (upF (upF x.1 6 x.2.1) 8 (x.2.1 + 2)) 0 0) 7 ((v * 10 + k) / 100)) 9 ((v * 10 + k) % 100)) := by simp [dMq, upF]
    refine ⟨DP.mk' hY hm (by simp [upF]) (by simp [upF]) (by simp [upF]) (by omega) ?_ ?_ ?_ ?_, hm⟩
    · simp [upF] <;> omega
    · simp [upF] <;> omega
    · simp [upF]
    · simp [upF]
  · have d' : ¬ (M.2.2.1 < 0 ∧ isD (byI T M.2.1)) := fun q => d (n1.dg.mpr q)
    rw [if_neg d, if_neg d']
    dsimp only
    refine ⟨n1, n2, fun q => ?_⟩
    have c2 := n2 q
    have e2 := n3 q
    rw [← e2]
    have hm : dMq x.1 (upF (upF (upF (upF x.1 6 x.2.1) 8 (x.2.1 + 2)) 0 2) 7 N.1) := by simp [dMq, upF]
    refine ⟨DP.mk' hY hm (by simp [upF]) (by simp [upF]) (by simp [upF]) (by omega) ?_ ?_ ?_ ?_, hm⟩
    · have gx := (h.good c2.1).1
      simp [upF] <;> omega
    · simp [upF]
    · simp [upF]
    · simp [upF]
/-- a date -/
theorem dt_same {T : List Int} {w b wh : Int} {x : fS} {y : gsS} (h : RP T w b x.2 y.2) (hw : wh = 0 ∨ wh = 1) : ∃ b', RP T w b' (dtF T wh x).2 (drG T wh y).2 ∧ bs x.2 (dtF T wh x).2 ∧ ((dtF T wh x).2.2.1 = 0 → DP (dtF T wh x).1 (drG T wh y).1 x.2.1 (dtF T wh x).2.1 ∧ (dtF T wh x).1 1 = hdG T y ∧ (b' = if (dtF T wh x).1 4 = 1 ∧ (dtF T wh x).1 5 = 0 then mnI ((dtF T wh x).1 2) b else b)) := by
  obtain ⟨b', r1, r2, r3⟩ := yr_same (x := (upF (upF x.1 7 1) 9 1, x.2)) h (by simp [upF]) (by simp [upF])
  dsimp only at r1 r2 r3
  unfold dtF drG hdG
  generalize hX : yrF T (upF (upF x.1 7 1) 9 1, x.2) = X at r1 r2 r3 ⊢
  generalize hYY : yrG T y = Y at r1 r3 ⊢
  obtain ⟨t1, t2, t3⟩ := r1.take (c := 45) (by decide)
  have t4 : (tkF T 45 X.2).1 = 0 ∨ (tkF T 45 X.2).1 = 1 := by rcases tkF_01 T 45 X.2 with g | g; exact Or.inr g; exact Or.inl g.1
  rw [← t1]
  generalize hd : (tkF T 45 X.2).1 = hd9 at t1 t4 ⊢
  generalize hs1 : (tkF T 45 X.2).2 = s1 at t2 t3 ⊢
  generalize hr1 : (tkG T 45 Y.2).2 = g1 at t2 ⊢
  have hfin : ∀ (Z : fS) (W : gsS), RP T w b' Z.2 W.2 → bs s1 Z.2 → (Z.2.2.1 = 0 → DP Z.1 W.1 x.2.1 Z.2.1 ∧ dMq (upF X.1 1 hd9) Z.1) → ∃ b', RP T w b' Z.2 W.2 ∧ bs x.2 Z.2 ∧ (Z.2.2.1 = 0 → DP Z.1 W.1 x.2.1 Z.2.1 ∧ Z.1 1 = hd9 ∧ (b' = if Z.1 4 = 1 ∧ Z.1 5 = 0 then mnI (Z.1 2) b else b)) := by
    intro Z W z1 z2 z3
    refine ⟨b', z1, bs.trans r2 (bs.trans t3 z2), fun q => ?_⟩
    obtain ⟨q1, q2, q3, q4, q5⟩ := z3 q
    obtain ⟨-, -, k3⟩ := r3 (t3 (z2 q).1).1
    refine ⟨q1, by rw [q5]; simp [upF], ?_⟩
    rw [q2, q3, q4, k3]
    simp [upF]
  unfold beF beG
  dsimp only
  rcases t2.b01 with hb | hb
  · have gd := t2.good hb
    obtain ⟨k1, k2, k3⟩ := r3 (t3 hb).1
    have kY : YP (upF X.1 1 hd9) Y.1 x.2.1 s1.1 := by
      obtain ⟨y1, y2, y3, y4, y5, y6, y7, y8⟩ := k1
      have := (t3 hb).2
      refine ⟨by rw [y1]; exact (tl_eq (by simp [upF]) (by simp [upF])).symm, by rw [y2]; simp [upF], y3, by simp [upF]; exact y4, by simp [upF]; exact y5, by simp [upF]; omega, by simp [upF]; exact y7, by simp [upF]; exact y8⟩
    have e3 : upF X.1 1 hd9 3 = sdI T y.2 := by simp [upF]; exact k2
    have e1 : upF X.1 1 hd9 1 = hd9 := up_eq
    simp only [e1, e3]
    rw [if_pos (show g1.2.1 < 0 by omega)]
    have yend := hfin (enF 3 wh (upF X.1 1 hd9, s1)) (Y.1, if wh = 1 then flG g1 else g1) (by unfold enF; dsimp only; split; exact t2.fail; exact t2) (by unfold enF; dsimp only; split; (exact fun q => absurd q (by show ¬ (1 : Int) = 0; decide)); exact bs.rfl') (by
      intro q
      unfold enF at q ⊢
      dsimp only at q ⊢
      by_cases g : wh = 1
      · rw [if_pos g] at q
        exact absurd q (by show ¬ (1 : Int) = 0; decide)
      · rw [if_neg g]
        have hm : dMq (upF X.1 1 hd9) (upF (upF X.1 1 hd9) 0 3) := by simp [dMq, upF]
        have h7 := kY.2.2.2.2.2.2.1
        have h9 := kY.2.2.2.2.2.2.2
        simp [upF] at h7 h9
        exact ⟨DP.mk' kY hm rfl rfl (by simp [upF]; exact kY.2.2.1) (Int.le_refl _) (by simp [upF]) (by simp [upF]) (by simp [upF]; exact ⟨h7, h9⟩) (by simp [upF]), hm⟩)
    have sd01 : sdI T y.2 = 0 ∨ sdI T y.2 = 1 := by unfold sdI; split; exact Or.inr rfl; exact Or.inl rfl
    by_cases go : hd9 = 1 ∨ sdI T y.2 = 0
    · rw [if_pos go]
      by_cases cW : lk T s1 = 87
      · obtain ⟨a1, a2, a3, a4, a5⟩ := t2.takes (by decide) cW
        have cW' := (t2.lkc (by decide)).mp cW
        rw [a1]
        dsimp only
        rw [if_pos (show (1 : Int) = 1 from rfl), if_pos ⟨go, cW'.2⟩]
        have := wk_same (x := (upF X.1 1 hd9, (s1.1 + 1, s1.2))) (y := ad1 (Y.1, g1)) (lo := x.2.1) (h0 := s1.1) (wh := wh) a3 hw (by show upF X.1 1 hd9 1 = 0 ∨ upF X.1 1 hd9 1 = 1; rw [e1]; exact t4) kY (by dsimp only; omega)
        dsimp only at this
        rw [e1] at this
        exact hfin _ _ this.1 (bs.trans a5 this.2.1) this.2.2
      · obtain ⟨a1, a2⟩ := t2.not_takes (by decide) cW
        rw [a1]
        dsimp only
        rw [if_neg (show ¬ (0 : Int) = 1 by decide), if_neg (fun q : (hd9 = 1 ∨ sdI T y.2 = 0) ∧ byI T g1.1 = 87 => cW ((t2.lkc (by decide)).mpr ⟨by omega, q.2⟩))]
        by_cases h1 : hd9 = 1
        · rw [if_pos h1, if_pos h1]
          have := da_same (x := (upF X.1 1 hd9, s1)) (y := (Y.1, g1)) (lo := x.2.1) (h0 := s1.1) (wh := wh) t2 hw kY (Int.le_refl _)
          exact hfin _ _ this.1 this.2.1 this.2.2
        · rw [if_neg h1, if_neg h1]
          have s0 : sdI T y.2 = 0 := by omega
          by_cases d : 0 ≤ dgF T s1
          · rw [if_pos d, if_pos ⟨s0, (t2.dg.mp d).2⟩]
            have := pl_same (x := (upF X.1 1 hd9, s1)) (y := (Y.1, g1)) (lo := x.2.1) (h0 := s1.1) t2 kY (Int.le_refl _)
            exact hfin _ _ this.1 this.2.1 this.2.2
          · rw [if_neg d, if_neg (fun q => d (t2.dg.mpr ⟨by omega, q.2⟩))]
            exact yend
    · rw [if_neg go, if_neg (fun q => go q.1), if_neg (by omega), if_neg (by omega)]
      exact yend
  · have gn := t2.brk hb
    rw [if_neg (show ¬ g1.2.1 < 0 by omega)]
    have hz := beF_fz (T := T) (wh := wh) (x := (upF X.1 1 hd9, s1)) hb
    have hw9 := beF_w (T := T) (wh := wh) (x := (upF X.1 1 hd9, s1))
    refine hfin (beF T wh (upF X.1 1 hd9, s1)) (Y.1, g1) ⟨by rw [hw9]; exact t2.1, t2.2.1, Or.inr ⟨hz.2, by rw [hz.1]; exact gn.1, by rw [hz.1]; exact gn.2⟩⟩ (fun q => by omega) (fun q => by omega)

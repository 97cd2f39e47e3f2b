/-! what a rule is that was read without fault -/
def dW (d : rD) : Prop := rdOK d ∧ 0 ≤ d.2.2.2.2 ∧ d.2.2.2.2 ≤ 1499
def rW (r : rU) : Prop := 0 ≤ r.1 ∧ r.1 ≤ 2 ∧ (1 ≤ r.1 → oOK r.2.1) ∧ (r.1 = 2 → oOK r.2.2.1 ∧ dW r.2.2.2.1 ∧ dW r.2.2.2.2)
def r0U : rU := (0, 0, 0, rD0, rD0)
theorem rW_0 : rW r0U := ⟨by decide, by decide, fun h => absurd h (by decide), fun h => absurd h (by decide)⟩
theorem vd_none {s : uS} (h0 : 0 ≤ s.1) (h : vdF s = NONEI) : s.2.1 = 0 ∧ s.2.2 < 0 := by
  unfold vdF NONEI at h
  split at h
  · omega
  · split at h
    · omega
    · omega
theorem ndF_w (T : List Int) (c : Int) (s : uS) : (ndF T c s).2.2 = s.2.2 := by unfold ndF flF; split <;> rfl
theorem neF_w (T : List Int) (s : uS) : (neF T s).2.2 = s.2.2 := by unfold neF flF; split <;> rfl
theorem neF_at (T : List Int) (s : uS) : (neF T s).1 = s.1 := by unfold neF flF; split <;> rfl
theorem sgnF_w (T : List Int) (s : uS) : (sgnF T s).2.2.2 = s.2.2 := by
  unfold sgnF
  split
  · exact tkF_w T 45 s
  · show (tkF T 43 (tkF T 45 s).2).2.2.2 = s.2.2
    rw [tkF_w, tkF_w]
theorem sgnF_mo (T : List Int) (s : uS) : s.1 ≤ (sgnF T s).2.1 := by
  unfold sgnF
  have a := tkF_mo T 45 s
  have b := tkF_mo T 43 (tkF T 45 s).2
  split <;> (dsimp only; omega)
theorem dMF_mo (T : List Int) (s : uS) : s.1 ≤ (dMF T s).2.1 := by
  have p1 := niF_mo (T := T) (ld := 1) (md := 2) (lo := 1) (hi := 12) (s := s)
  have p2 := ndF_mo T 46 (niF T 1 2 1 12 s).2
  have p3 := niF_mo (T := T) (ld := 1) (md := 1) (lo := 1) (hi := 5) (s := ndF T 46 (niF T 1 2 1 12 s).2)
  have p4 := ndF_mo T 46 (niF T 1 1 1 5 (ndF T 46 (niF T 1 2 1 12 s).2)).2
  have p5 := niF_mo (T := T) (ld := 1) (md := 1) (lo := 0) (hi := 6) (s := ndF T 46 (niF T 1 1 1 5 (ndF T 46 (niF T 1 2 1 12 s).2)).2)
  show s.1 ≤ (niF T 1 1 0 6 (ndF T 46 (niF T 1 1 1 5 (ndF T 46 (niF T 1 2 1 12 s).2)).2)).2.1
  omega
theorem dM_ok {T : List Int} {s : uS} (h0 : 0 ≤ s.1) (hw : (dMF T s).2.2.2 < 0) : rdOK (dMF T s).1 ∧ (dMF T s).1.2.2.2.2 = 120 ∧ s.2.2 < 0 := by
  have p1 := niF_mo (T := T) (ld := 1) (md := 2) (lo := 1) (hi := 12) (s := s)
  have p2 := ndF_mo T 46 (niF T 1 2 1 12 s).2
  have p3 := niF_mo (T := T) (ld := 1) (md := 1) (lo := 1) (hi := 5) (s := ndF T 46 (niF T 1 2 1 12 s).2)
  have p4 := ndF_mo T 46 (niF T 1 1 1 5 (ndF T 46 (niF T 1 2 1 12 s).2)).2
  have hw : (niF T 1 1 0 6 (ndF T 46 (niF T 1 1 1 5 (ndF T 46 (niF T 1 2 1 12 s).2)).2)).2.2.2 < 0 := hw
  obtain ⟨c1, c2, c3⟩ := niF_ok (by omega) hw
  rw [ndF_w] at c3
  obtain ⟨b1, b2, b3⟩ := niF_ok (by omega) c3
  rw [ndF_w] at b3
  obtain ⟨a1, a2, a3⟩ := niF_ok h0 b3
  exact ⟨Or.inl ⟨rfl, a1, a2, b1, b2, c1, c2⟩, rfl, a3⟩
theorem dKF_mo (T : List Int) (s : uS) : s.1 ≤ (dKF T s).2.1 := by
  have m1 := tkF_mo T 77 s
  have m2 := tkF_mo T 74 (tkF T 77 s).2
  unfold dKF
  split
  · have := dMF_mo T (tkF T 77 s).2
    omega
  · split
    · have := niF_mo (T := T) (ld := 1) (md := 3) (lo := 1) (hi := 365) (s := (tkF T 74 (tkF T 77 s).2).2)
      dsimp only
      omega
    · have := niF_mo (T := T) (ld := 1) (md := 3) (lo := 0) (hi := 365) (s := (tkF T 74 (tkF T 77 s).2).2)
      dsimp only
      omega
theorem dK_ok {T : List Int} {s : uS} (h0 : 0 ≤ s.1) (hw : (dKF T s).2.2.2 < 0) : rdOK (dKF T s).1 ∧ (dKF T s).1.2.2.2.2 = 120 ∧ s.2.2 < 0 := by
  have m1 := tkF_mo T 77 s
  have m2 := tkF_mo T 74 (tkF T 77 s).2
  have w1 := tkF_w T 77 s
  have w2 := tkF_w T 74 (tkF T 77 s).2
  unfold dKF at hw ⊢
  by_cases g : (tkF T 77 s).1 = 1
  · rw [if_pos g] at hw ⊢
    obtain ⟨a, b, c⟩ := dM_ok (by omega) hw
    exact ⟨a, b, by omega⟩
  · rw [if_neg g] at hw ⊢
    by_cases g2 : (tkF T 74 (tkF T 77 s).2).1 = 1
    · rw [if_pos g2] at hw ⊢
      have hw : (niF T 1 3 1 365 (tkF T 74 (tkF T 77 s).2).2).2.2.2 < 0 := hw
      obtain ⟨a1, a2, a3⟩ := niF_ok (by omega) hw
      exact ⟨Or.inr (Or.inl ⟨rfl, a1, a2⟩), rfl, by omega⟩
    · rw [if_neg g2] at hw ⊢
      have hw : (niF T 1 3 0 365 (tkF T 74 (tkF T 77 s).2).2).2.2.2 < 0 := hw
      obtain ⟨a1, a2, a3⟩ := niF_ok (by omega) hw
      exact ⟨Or.inr (Or.inr ⟨rfl, a1, a2⟩), rfl, by omega⟩
theorem dateF_mo (T : List Int) (s : uS) : s.1 ≤ (dateF T s).2.1 := by
  have m1 := dKF_mo T s
  have m2 := tkF_mo T 47 (dKF T s).2
  unfold dateF
  split
  · have : (tkF T 47 (dKF T s).2).2.1 ≤ (ckF T 24 (tkF T 47 (dKF T s).2).2).2.1 := ckF_mo
    dsimp only
    omega
  · dsimp only
    omega
theorem date_ok {T : List Int} {s : uS} (h0 : 0 ≤ s.1) (hw : (dateF T s).2.2.2 < 0) : dW (dateF T s).1 ∧ s.2.2 < 0 := by
  have m1 := dKF_mo T s
  have m2 := tkF_mo T 47 (dKF T s).2
  have w2 := tkF_w T 47 (dKF T s).2
  unfold dateF at hw ⊢
  by_cases g : (tkF T 47 (dKF T s).2).1 = 1
  · rw [if_pos g] at hw ⊢
    have hw : (ckF T 24 (tkF T 47 (dKF T s).2).2).2.2.2 < 0 := hw
    obtain ⟨a, b, c⟩ := ckF_ok (by omega) hw
    obtain ⟨d, -, f⟩ := dK_ok (T := T) h0 (by omega)
    exact ⟨⟨d, a, by show (ckF T 24 (tkF T 47 (dKF T s).2).2).1 ≤ 1499; omega⟩, f⟩
  · rw [if_neg g] at hw ⊢
    have hw : (tkF T 47 (dKF T s).2).2.2.2 < 0 := hw
    obtain ⟨d, e, f⟩ := dK_ok (T := T) h0 (by omega)
    exact ⟨⟨d, by show 0 ≤ (dKF T s).1.2.2.2.2; omega, by show (dKF T s).1.2.2.2.2 ≤ 1499; omega⟩, f⟩
theorem secF_mo (T : List Int) (h0 f : Int) (s : uS) : s.1 ≤ (secF T h0 f s).2.1 := by
  unfold secF
  split
  · have h1 := sgnF_mo T s
    have h2 : (sgnF T s).2.1 ≤ (ckF T 23 (sgnF T s).2).2.1 := ckF_mo
    show s.1 ≤ (ckF T 23 (sgnF T s).2).2.1
    omega
  · dsimp only
    split
    · rw [blF_at]; omega
    · omega
theorem sec_ok {T : List Int} {h0 f : Int} {s : uS} (hs : 0 ≤ s.1) (hh : 0 ≤ h0) (hf : s.2.2 < 0 → oOK f) (hw : (secF T h0 f s).2.2.2 < 0) : oOK (secF T h0 f s).1 ∧ s.2.2 < 0 := by
  unfold secF at hw ⊢
  by_cases g : lk T s = 43 ∨ lk T s = 45 ∨ 0 ≤ dgF T s
  · rw [if_pos g] at hw ⊢
    have h1 := sgnF_mo T s
    have hw : (ckF T 23 (sgnF T s).2).2.2.2 < 0 := hw
    obtain ⟨a, b, c⟩ := ckF_ok (by omega) hw
    rw [sgnF_w] at c
    refine ⟨?_, c⟩
    show -1439 ≤ -((sgnF T s).1 * (ckF T 23 (sgnF T s).2).1) ∧ -((sgnF T s).1 * (ckF T 23 (sgnF T s).2).1) ≤ 1439
    rcases sgnF_1 T s with q | q <;> rw [q] <;> omega
  · rw [if_neg g] at hw ⊢
    by_cases q : 1439 < f + 60
    · have hw : (if 1439 < f + 60 then blF h0 s else s).2.2 < 0 := hw
      rw [if_pos q] at hw
      unfold blF at hw
      split at hw
      · dsimp only at hw; omega
      · omega
    · have hw : (if 1439 < f + 60 then blF h0 s else s).2.2 < 0 := hw
      rw [if_neg q] at hw
      have := hf hw
      unfold oOK at this
      exact ⟨by show -1439 ≤ f + 60 ∧ f + 60 ≤ 1439; omega, hw⟩
theorem ru_ok {T : List Int} (hv : vdF (ruF T).2 = NONEI) : rW (ruF T).1 := by
  have nm : 0 ≤ (nameF T (0, 0, -1)).1 := nameF_mo T (0, 0, -1)
  have e1 : (ruF T) = if (stF T 23 (nameF T (0, 0, -1))).2.2.1 = 0 ∧ (T.length : Int) ≤ (stF T 23 (nameF T (0, 0, -1))).2.1 then ((1, (stF T 23 (nameF T (0, 0, -1))).1, (stF T 23 (nameF T (0, 0, -1))).1, rD0, rD0), (stF T 23 (nameF T (0, 0, -1))).2) else ru2F T (sgnF T (nameF T (0, 0, -1))).2.1 (stF T 23 (nameF T (0, 0, -1))).1 (stF T 23 (nameF T (0, 0, -1))).2 := rfl
  have hs1 := sgnF_mo T (nameF T (0, 0, -1))
  have hs2 : (sgnF T (nameF T (0, 0, -1))).2.1 ≤ (stF T 23 (nameF T (0, 0, -1))).2.1 := ckF_mo
  have hok : (stF T 23 (nameF T (0, 0, -1))).2.2.2 < 0 → oOK (stF T 23 (nameF T (0, 0, -1))).1 := fun hw => by
    obtain ⟨a, b, -⟩ := ckF_ok (s := (sgnF T (nameF T (0, 0, -1))).2) (by omega) hw
    show -1439 ≤ -((sgnF T (nameF T (0, 0, -1))).1 * (ckF T 23 (sgnF T (nameF T (0, 0, -1))).2).1) ∧ -((sgnF T (nameF T (0, 0, -1))).1 * (ckF T 23 (sgnF T (nameF T (0, 0, -1))).2).1) ≤ 1439
    rcases sgnF_1 T (nameF T (0, 0, -1)) with g | g <;> rw [g] <;> omega
  rw [e1] at hv ⊢
  generalize (stF T 23 (nameF T (0, 0, -1))) = x at hv hs2 hok ⊢
  generalize (sgnF T (nameF T (0, 0, -1))).2.1 = h at hv hs1 hs2 ⊢
  by_cases c : x.2.2.1 = 0 ∧ (T.length : Int) ≤ x.2.1
  · rw [if_pos c] at hv ⊢
    obtain ⟨-, w⟩ := vd_none (s := x.2) (by omega) hv
    exact ⟨by show (0 : Int) ≤ 1; decide, by show (1 : Int) ≤ 2; decide, fun _ => hok w, fun q => absurd q (show ¬ (1 : Int) = 2 by decide)⟩
  · rw [if_neg c] at hv ⊢
    have n1 := nameF_mo T x.2
    have n2 := secF_mo T h x.1 (nameF T x.2)
    have n3 := ndF_mo T 44 (secF T h x.1 (nameF T x.2)).2
    have n4 := dateF_mo T (ndF T 44 (secF T h x.1 (nameF T x.2)).2)
    have n5 := ndF_mo T 44 (dateF T (ndF T 44 (secF T h x.1 (nameF T x.2)).2)).2
    have n6 := dateF_mo T (ndF T 44 (dateF T (ndF T 44 (secF T h x.1 (nameF T x.2)).2)).2)
    have hv : vdF (neF T (dateF T (ndF T 44 (dateF T (ndF T 44 (secF T h x.1 (nameF T x.2)).2)).2)).2) = NONEI := hv
    obtain ⟨-, w⟩ := vd_none (by rw [neF_at]; omega) hv
    rw [neF_w] at w
    obtain ⟨d2, w2⟩ := date_ok (by omega) w
    rw [ndF_w] at w2
    obtain ⟨d1, w1⟩ := date_ok (by omega) w2
    rw [ndF_w] at w1
    obtain ⟨o2, w0⟩ := sec_ok (by omega) (by omega) (fun q => hok (by rw [nameF_w] at q; exact q)) w1
    rw [nameF_w] at w0
    exact ⟨by show (0 : Int) ≤ 2; decide, by show (2 : Int) ≤ 2; decide, fun _ => hok w0, fun _ => ⟨o2, d1, d2⟩⟩
/-! offsets, as functions: the year of a day, the minute of an instant, by a rule, by a zone -/
def yqI (n : Int) : Int := 400 * (n + 731204528) / 146097 - 2000000
def yrI (n : Int) : Int := if n < ysI (yqI n) then yqI n - 1 else if ysI (yqI n + 1) ≤ n then yqI n + 1 else yqI n
theorem yrI_ok (n : Int) : isY n (yrI n) := by
  have h9 := yr_guess (n := n) (E := 400 * (n + 731204528) / 146097) (by omega) (by omega)
  have h8 := yr_pick (e := yqI n) (by show ysI (400 * (n + 731204528) / 146097 - 2000000 - 1) ≤ n; exact h9.1) (by show n < ysI (400 * (n + 731204528) / 146097 - 2000000 + 2); exact h9.2)
  unfold yrI
  by_cases g : n < ysI (yqI n)
  · rw [if_pos g]; exact h8.1 g
  · rw [if_neg g]
    by_cases q : ysI (yqI n + 1) ≤ n
    · rw [if_pos q]; exact h8.2.1 (by omega) q
    · rw [if_neg q]; exact h8.2.2 (by omega) (by omega)
theorem yrI_eq {n y : Int} (h : isY n y) : yrI n = y := isY_one (yrI_ok n) h
def dyI (L : List Int) (t : Int) : Int := if t < 86400 * (t / 86400) + lsI L (t / 86400) then t / 86400 - 1 else if 86400 * (t / 86400 + 1) + lsI L (t / 86400 + 1) ≤ t then t / 86400 + 1 else t / 86400
def mjI (L : List Int) (t d : Int) : Int := if (t - (86400 * d + lsI L d)) / 60 ≤ 1439 then (t - (86400 * d + lsI L d)) / 60 else 1439
def mtI (L : List Int) (t : Int) : Int := dyI L t * 1440 + mjI L t (dyI L t)
theorem mtI_ok {L : List Int} (hL : L.length ≤ 40) (t : Int) : rdM L t (mtI L t) := by
  have b0 := lsI_b hL (t / 86400 - 1)
  have b1 := lsI_b hL (t / 86400)
  have b2 := lsI_b hL (t / 86400 + 1)
  have b3 := lsI_b hL (t / 86400 + 1 + 1)
  have hd : 86400 * dyI L t + lsI L (dyI L t) ≤ t ∧ t < 86400 * (dyI L t + 1) + lsI L (dyI L t + 1) := by
    unfold dyI
    by_cases g : t < 86400 * (t / 86400) + lsI L (t / 86400)
    · rw [if_pos g, show t / 86400 - 1 + 1 = t / 86400 by omega]
      exact ⟨by omega, g⟩
    · rw [if_neg g]
      by_cases q : 86400 * (t / 86400 + 1) + lsI L (t / 86400 + 1) ≤ t
      · rw [if_pos q]; exact ⟨q, by omega⟩
      · rw [if_neg q]; exact ⟨by omega, by omega⟩
  unfold mtI
  refine rdM_of hd.1 hd.2 ?_
  unfold mjI
  by_cases g : (t - (86400 * dyI L t + lsI L (dyI L t))) / 60 ≤ 1439
  · rw [if_pos g]; exact Or.inl ⟨g, rfl⟩
  · rw [if_neg g]; exact Or.inr ⟨by omega, rfl⟩
theorem mtI_eq {L : List Int} {t M : Int} (hL : L.length ≤ 40) (h : rdM L t M) : M = mtI L t := rdM_one h (mtI_ok hL t)
theorem mtI_bd {L : List Int} {t : Int} (hL : L.length ≤ 40) (h1 : -32000000000000 ≤ t) (h2 : t ≤ 32000000000000) : -533400000000 ≤ mtI L t ∧ mtI L t ≤ 533400000000 := by
  have h := mtI_ok hL t
  obtain ⟨g1, g2⟩ := h
  have b1 := lsI_b hL (mtI L t / 1440)
  have b2 := lsI_b hL ((mtI L t + 1) / 1440)
  unfold stI at g1 g2
  omega
abbrev inC (f t m : Int) : Prop := (f < t ∧ f ≤ m ∧ m < t) ∨ (¬ f < t ∧ (f ≤ m ∨ m < t))
theorem inB_iff {f t m : Int} : inC f t m ↔ ((f < t ∧ f ≤ m ∧ m < t) ∨ (¬ f < t ∧ (f ≤ m ∨ m < t))) := Iff.rfl
def fmF (r : rU) (y : Int) : Int := mmF (ysI y) (lpI y) r.2.2.2.1 - r.2.1
def tmF (r : rU) (y : Int) : Int := mmF (ysI y) (lpI y) r.2.2.2.2 - r.2.2.1
def oyF (r : rU) (y m : Int) : Int := if inC (fmF r y) (tmF r y) m then r.2.2.1 else r.2.1
def roF (r : rU) (m : Int) : Int := if r.1 ≤ 1 then r.2.1 else oyF r (yrI ((m + r.2.1) / 1440)) m
def byB (C : List (Int × Int)) (t : Int) : Bool := match C[C.length - 1]? with
  | some c => decide (c.1 ≤ t)
  | none => true
abbrev byR (C : List (Int × Int)) (t : Int) : Prop := byB C t = true
theorem byR_some {C : List (Int × Int)} {t : Int} {c : Int × Int} (h : C[C.length - 1]? = some c) : byR C t ↔ c.1 ≤ t := by
  have e : byB C t = decide (c.1 ≤ t) := by unfold byB; rw [h]
  show byB C t = true ↔ c.1 ≤ t
  rw [e, decide_eq_true_iff]
theorem byR_none {C : List (Int × Int)} {t : Int} (h : C.length = 0) : byR C t := by
  have e : C[C.length - 1]? = none := List.getElem?_eq_none (by omega)
  show byB C t = true
  unfold byB; rw [e]
def ofF (L : List Int) (e : zE) (r : rU) (t : Int) : Int := if 0 < r.1 ∧ byR e.2 t then roF r (mtI L t) else tbF e.1 e.2 t
/-! rules in the state: the class's objects -/
def ccR (r : rU) (y a b c d : Int) : Prop := a = 1440 * ysI y - r.2.1 ∧ b = a + 1440 * (365 + lpI y) ∧ c = fmF r y ∧ d = tmF r y
def jCc (D : va_G) (H : Heap) (u : Nat) (r : rU) : Prop := ∃ (tn yv : Int32) (a b c d : Int64), zh_f D H u 5 5 = .int tn ∧ zh_f D H u 5 6 = .int yv ∧ zh_f D H u 5 7 = .long a ∧ zh_f D H u 5 8 = .long b ∧ zh_f D H u 5 9 = .long c ∧ zh_f D H u 5 10 = .long d ∧ (tn.toInt = 0 ∨ (tn.toInt = 1 ∧ r.1 = 2 ∧ ccR r yv.toInt a.toInt b.toInt c.toInt d.toInt))
def jAt (D : va_G) (H : Heap) (u : Nat) (y : Int) : Prop := ∃ tn yv : Int32, zh_f D H u 5 5 = .int tn ∧ zh_f D H u 5 6 = .int yv ∧ tn.toInt = 1 ∧ yv.toInt = y
def jRf (D : va_G) (H : Heap) (u f t : Nat) (r : rU) : Prop := zh_f D H u 5 3 = .ref f ∧ zh_f D H u 5 4 = .ref t ∧ ∃ n a b : Int32, zh_f D H u 5 0 = .int n ∧ zh_f D H u 5 1 = .int a ∧ zh_f D H u 5 2 = .int b ∧ n.toInt = r.1 ∧ (1 ≤ r.1 → a.toInt = r.2.1) ∧ (r.1 = 2 → b.toInt = r.2.2.1 ∧ jRd D H f r.2.2.2.1 ∧ jRd D H t r.2.2.2.2)
def jRo (D : va_G) (ro : Nat → Option Nat) (H : Heap) (u f t : Nat) (r : rU) : Prop := ro u = some 5 ∧ ro f = some 6 ∧ ro t = some 6 ∧ jRf D H u f t r ∧ jCc D H u r ∧ rW r
def jUi (D : va_G) (ro : Nat → Option Nat) (H : Heap) (z : Nat → Value) (q u f t : Nat → Nat) (lp : Nat) (R : List rU) : Prop := ∀ (i : Nat) (r : rU), R[i]? = some r → z i = .ref (q i) ∧ ro (q i) = some 9 ∧ zh_f D H (q i) 9 1 = .ref lp ∧ zh_f D H (q i) 9 5 = .ref (u i) ∧ jRo D ro H (u i) (f i) (t i) r
def jDr (D : va_G) (ro : Nat → Option Nat) (H : Heap) (x dr df dt : Nat) : Prop := zh_f D H x 10 3 = .ref dr ∧ ro dr = some 5 ∧ zh_f D H dr 5 3 = .ref df ∧ zh_f D H dr 5 4 = .ref dt ∧ ro df = some 6 ∧ ro dt = some 6 ∧ df ≠ dt
def jDi (n : Nat) (u f t : Nat → Nat) (dr df dt : Nat) : Prop := (∀ i, i < n → u i ≠ dr ∧ f i ≠ df ∧ f i ≠ dt ∧ t i ≠ df ∧ t i ≠ dt ∧ f i ≠ t i) ∧ ∀ i j, i < n → j < n → i ≠ j → u i ≠ u j ∧ f i ≠ f j ∧ f i ≠ t j ∧ t i ≠ f j ∧ t i ≠ t j
def jRR (D : va_G) (cA : Nat → ClassId) (ro : Nat → Option Nat) (H : Heap) (x : Nat) (R : List rU) : Prop := ∃ (az : Nat) (z : Nat → Value) (n : Int32) (q u f t : Nat → Nat) (lp dr df dt : Nat), jZa D cA ro H x az z n ∧ n.toInt = (R.length : Int) ∧ R.length ≤ 8 ∧ zh_f D H x 10 0 = .ref lp ∧ jUi D ro H z q u f t lp R ∧ jDr D ro H x dr df dt ∧ jDi R.length u f t dr df dt
def uFl : List (Nat × Nat) := [(5, 0), (5, 1), (5, 2), (5, 3), (5, 4), (5, 5), (5, 6), (5, 7), (5, 8), (5, 9), (5, 10), (6, 0), (6, 1), (6, 2), (6, 3), (6, 4)]
def rFl : List (Nat × Nat) := [(10, 0), (10, 1), (10, 2), (10, 3), (20, 0), (9, 1), (9, 5), (5, 0), (5, 1), (5, 2), (5, 3), (5, 4), (5, 5), (5, 6), (5, 7), (5, 8), (5, 9), (5, 10), (6, 0), (6, 1), (6, 2), (6, 3), (6, 4)]
theorem arrV_i {c : ClassId} {N : Nat} {z z' : Nat → Value} (h : some (arrV c N z) = some (arrV c N z')) : ∀ i, i < N → z i = z' i := by
  intro i hi
  have h1 : (arrV c N z).slots[i]? = (arrV c N z').slots[i]? := by rw [Option.some.inj h]
  rw [arrV_read _ _ hi, arrV_read _ _ hi] at h1
  exact Option.some.inj h1
section RST
variable {D : va_G} {cA : Nat → ClassId} {ro ro' : Nat → Option Nat} {H H' : Heap} {ms : List (Nat × Nat)} {R : List rU} {x az u f t zq : Nat} {r : rU} {z : Nat → Value} {n : Int32}
theorem jCc.same (h : H'[u]? = H[u]?) (j : jCc D H u r) : jCc D H' u r := by
  obtain ⟨tn, yv, a, b, c, d, f5, f6, f7, f8, f9, f10, g⟩ := j
  exact ⟨tn, yv, a, b, c, d, zh_fq h f5, zh_fq h f6, zh_fq h f7, zh_fq h f8, zh_fq h f9, zh_fq h f10, g⟩
theorem jRf.same (h1 : H'[u]? = H[u]?) (h2 : H'[f]? = H[f]?) (h3 : H'[t]? = H[t]?) (j : jRf D H u f t r) : jRf D H' u f t r := by
  obtain ⟨f3, f4, n, a, b, f0, f1, f2, g0, g1, g2⟩ := j
  exact ⟨zh_fq h1 f3, zh_fq h1 f4, n, a, b, zh_fq h1 f0, zh_fq h1 f1, zh_fq h1 f2, g0, g1, fun q => ⟨(g2 q).1, (g2 q).2.1.same h2, (g2 q).2.2.same h3⟩⟩
theorem jRo.same (h1 : H'[u]? = H[u]?) (h2 : H'[f]? = H[f]?) (h3 : H'[t]? = H[t]?) (j : jRo D ro H u f t r) : jRo D ro H' u f t r := ⟨j.1, j.2.1, j.2.2.1, j.2.2.2.1.same h1 h2 h3, j.2.2.2.2.1.same h1, j.2.2.2.2.2⟩
theorem jRo.kept (h : zc_kept D RTg ro ms H H') (hm : ∀ y ∈ uFl, y ∉ ms) (j : jRo D ro H u f t r) : jRo D ro H' u f t r := by
  obtain ⟨r1, r2, r3, ⟨f3, f4, n, a, b, f0, f1, f2, g0, g1, g2⟩, ⟨tn, yv, a', b', c', d', f5, f6, f7, f8, f9, f10, g⟩, w⟩ := j
  have k : ∀ (i : Nat), i < 11 → (5, i) ∉ ms → zh_f D H' u 5 i = zh_f D H u 5 i := fun i hi hm => h.1 u 5 i 5 0 fsX6 r1 rfl hi hm
  exact ⟨r1, r2, r3, ⟨(k 3 (by decide) (hm _ (by decide))).trans f3, (k 4 (by decide) (hm _ (by decide))).trans f4, n, a, b, (k 0 (by decide) (hm _ (by decide))).trans f0, (k 1 (by decide) (hm _ (by decide))).trans f1, (k 2 (by decide) (hm _ (by decide))).trans f2, g0, g1, fun q => ⟨(g2 q).1, (g2 q).2.1.kept r2 h (fun y hy => hm y (by revert y; decide)), (g2 q).2.2.kept r3 h (fun y hy => hm y (by revert y; decide))⟩⟩, ⟨tn, yv, a', b', c', d', (k 5 (by decide) (hm _ (by decide))).trans f5, (k 6 (by decide) (hm _ (by decide))).trans f6, (k 7 (by decide) (hm _ (by decide))).trans f7, (k 8 (by decide) (hm _ (by decide))).trans f8, (k 9 (by decide) (hm _ (by decide))).trans f9, (k 10 (by decide) (hm _ (by decide))).trans f10, g⟩, w⟩
theorem jRo.ext (he : ∀ q r, ro q = some r → ro' q = some r) (j : jRo D ro H u f t r) : jRo D ro' H u f t r := ⟨he _ _ j.1, he _ _ j.2.1, he _ _ j.2.2.1, j.2.2.2⟩
theorem jRR.kept (hx : ro x = some 10) (h : zc_kept D RTg ro ms H H') (hm : ∀ y ∈ rFl, y ∉ ms) (j : jRR D cA ro H x R) : jRR D cA ro H' x R := by
  obtain ⟨az, z, n, q, u, f, t, lp, dr, df, dt, j1, j2, j3, j4, j5, ⟨d1, d2, d3, d4, d5⟩, j7⟩ := j
  refine ⟨az, z, n, q, u, f, t, lp, dr, df, dt, j1.kept hx h (hm _ (by decide)) (hm _ (by decide)) (hm _ (by decide)), j2, j3, (h.1 x 10 0 10 0 fsX11 hx rfl (by decide) (hm _ (by decide))).trans j4, fun i r hi => ?_, ⟨(h.1 x 10 3 10 0 fsX11 hx rfl (by decide) (hm _ (by decide))).trans d1, d2, (h.1 dr 5 3 5 0 fsX6 d2 rfl (by decide) (hm _ (by decide))).trans d3, (h.1 dr 5 4 5 0 fsX6 d2 rfl (by decide) (hm _ (by decide))).trans d4, d5⟩, j7⟩
  obtain ⟨e1, e2, e3, e4, e5⟩ := j5 i r hi
  exact ⟨e1, e2, (h.1 (q i) 9 1 9 0 fsX10 e2 rfl (by decide) (hm _ (by decide))).trans e3, (h.1 (q i) 9 5 9 0 fsX10 e2 rfl (by decide) (hm _ (by decide))).trans e4, e5.kept h (fun y hy => hm y (by revert y; decide))⟩
theorem jRR.ext (he : ∀ q r, ro q = some r → ro' q = some r) (j : jRR D cA ro H x R) : jRR D cA ro' H x R := by
  obtain ⟨az, z, n, q, u, f, t, lp, dr, df, dt, j1, j2, j3, j4, j5, ⟨d1, d2, d3, d4, d5, d6, d7⟩, j7⟩ := j
  refine ⟨az, z, n, q, u, f, t, lp, dr, df, dt, ⟨j1.1, he _ _ j1.2.1, j1.2.2⟩, j2, j3, j4, fun i r hi => ?_, ⟨d1, he _ _ d2, d3, d4, he _ _ d5, he _ _ d6, d7⟩, j7⟩
  obtain ⟨e1, e2, e3, e4, e5⟩ := j5 i r hi
  exact ⟨e1, he _ _ e2, e3, e4, e5.ext he⟩
theorem l_set {α : Type} {l : List α} {i : Nat} {a : α} (h : l[i]? = some a) : l.set i a = l := by
  apply List.ext_getElem?
  intro k
  by_cases g : k = i
  · subst g
    rw [List.getElem?_set_self (List.getElem?_eq_some_iff.mp h).1, h]
  · rw [List.getElem?_set_ne (fun e => g e.symm)]
/-- what may not have changed: things that the rules stand on, but a few -/
def sfR (ro : Nat → Option Nat) (ex : List Nat) (H H' : Heap) : Prop := ∀ (p k : Nat), ro p = some k → (k = 5 ∨ k = 6 ∨ k = 9 ∨ k = 10 ∨ k = 20) → p ∉ ex → H'[p]? = H[p]?
/-- the rule of zone i, and how the state closes over a new one -/
theorem jRR.at (hx : ro x = some 10) (j : jRR D cA ro H x R) (hza : jZa D cA ro H x az z n) {i : Nat} (hi : R[i]? = some r) (hz : z i = .ref zq) : ∃ (u f t lp dr df dt : Nat), zh_f D H x 10 0 = .ref lp ∧ zh_f D H zq 9 1 = .ref lp ∧ zh_f D H zq 9 5 = .ref u ∧ jRo D ro H u f t r ∧ jDr D ro H x dr df dt ∧ (u ≠ dr ∧ f ≠ df ∧ f ≠ dt ∧ t ≠ df ∧ t ≠ dt ∧ f ≠ t) ∧ ∀ (H' : Heap) (r' : rU), sfR ro [u, f, t, dr, df, dt] H H' → jRo D ro H' u f t r' → zh_f D H' dr 5 3 = .ref df → zh_f D H' dr 5 4 = .ref dt → jRR D cA ro H' x (R.set i r') := by
  obtain ⟨az', z', n', q, u, f, t, lp, dr, df, dt, j1, j2, j3, j4, j5, jd, j7⟩ := j
  obtain ⟨d1, d2, d3, d4, d5, d6, d7⟩ := id jd
  have ea : az' = az := Value.ref.inj (j1.1.symm.trans hza.1)
  subst ea
  have hlt := (List.getElem?_eq_some_iff.mp hi).1
  obtain ⟨e1, e2, e3, e4, e5⟩ := j5 i r hi
  have ez : z' i = z i := arrV_i (j1.2.2.1.symm.trans hza.2.2.1) i (by omega)
  have eq : q i = zq := Value.ref.inj (e1.symm.trans (ez.trans hz))
  subst eq
  refine ⟨u i, f i, t i, lp, dr, df, dt, j4, e3, e4, e5, jd, j7.1 i hlt, fun H' r' hs jo g3 g4 => ?_⟩
  have ne9 : ∀ p k, ro p = some k → k ≠ 5 → k ≠ 6 → p ∉ [u i, f i, t i, dr, df, dt] := fun p k hp h5 h6 hm => by
    simp only [List.mem_cons, List.not_mem_nil, or_false] at hm
    rcases hm with g | g | g | g | g | g <;> subst g
    · exact h5 (Option.some.inj (hp.symm.trans e5.1))
    · exact h6 (Option.some.inj (hp.symm.trans e5.2.1))
    · exact h6 (Option.some.inj (hp.symm.trans e5.2.2.1))
    · exact h5 (Option.some.inj (hp.symm.trans d2))
    · exact h6 (Option.some.inj (hp.symm.trans d5))
    · exact h6 (Option.some.inj (hp.symm.trans d6))
  have sx : H'[x]? = H[x]? := hs x 10 hx (by decide) (ne9 x 10 hx (by decide) (by decide))
  have sa : H'[az']? = H[az']? := hs az' 20 j1.2.1 (by decide) (ne9 az' 20 j1.2.1 (by decide) (by decide))
  refine ⟨az', z', n', q, u, f, t, lp, dr, df, dt, ⟨zh_fq sx j1.1, j1.2.1, sa.trans j1.2.2.1, zh_fq sx j1.2.2.2⟩, by rw [List.length_set]; exact j2, by rw [List.length_set]; exact j3, zh_fq sx j4, fun k rk hk => ?_, ⟨zh_fq sx d1, d2, g3, g4, d5, d6, d7⟩, by rw [List.length_set]; exact j7⟩
  by_cases g : k = i
  · subst g
    rw [List.getElem?_set_self hlt] at hk
    cases hk
    have sq : H'[q k]? = H[q k]? := hs (q k) 9 e2 (by decide) (ne9 _ 9 e2 (by decide) (by decide))
    exact ⟨e1, e2, zh_fq sq e3, zh_fq sq e4, jo⟩
  · rw [List.getElem?_set_ne (fun e => g e.symm)] at hk
    obtain ⟨k1, k2, k3, k4, k5⟩ := j5 k rk hk
    have hkl := (List.getElem?_eq_some_iff.mp hk).1
    obtain ⟨a1, a2, a3, a4, a5⟩ := j7.2 k i hkl hlt g
    obtain ⟨b1, b2, b3, b4, b5, -⟩ := j7.1 k hkl
    have sq : H'[q k]? = H[q k]? := hs (q k) 9 k2 (by decide) (ne9 _ 9 k2 (by decide) (by decide))
    have x56 : ∀ p p', ro p = some 5 → ro p' = some 6 → p ≠ p' := fun p p' h1 h2 e => by rw [e, h2] at h1; cases h1
    have su : H'[u k]? = H[u k]? := hs (u k) 5 k5.1 (by decide) (fun hm => by
      simp only [List.mem_cons, List.not_mem_nil, or_false] at hm
      rcases hm with g | g | g | g | g | g
      · exact a1 g
      · exact x56 _ _ k5.1 e5.2.1 g
      · exact x56 _ _ k5.1 e5.2.2.1 g
      · exact b1 g
      · exact x56 _ _ k5.1 d5 g
      · exact x56 _ _ k5.1 d6 g)
    have sf : H'[f k]? = H[f k]? := hs (f k) 6 k5.2.1 (by decide) (fun hm => by
      simp only [List.mem_cons, List.not_mem_nil, or_false] at hm
      rcases hm with g | g | g | g | g | g
      · exact x56 _ _ e5.1 k5.2.1 g.symm
      · exact a2 g
      · exact a3 g
      · exact x56 _ _ d2 k5.2.1 g.symm
      · exact b2 g
      · exact b3 g)
    have st : H'[t k]? = H[t k]? := hs (t k) 6 k5.2.2.1 (by decide) (fun hm => by
      simp only [List.mem_cons, List.not_mem_nil, or_false] at hm
      rcases hm with g | g | g | g | g | g
      · exact x56 _ _ e5.1 k5.2.2.1 g.symm
      · exact a4 g
      · exact a5 g
      · exact x56 _ _ d2 k5.2.2.1 g.symm
      · exact b4 g
      · exact b5 g)
    exact ⟨k1, k2, zh_fq sq k3, zh_fq sq k4, k5.same su sf st⟩
end RST

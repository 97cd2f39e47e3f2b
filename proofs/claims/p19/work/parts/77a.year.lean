/-! the year of a day -/
theorem ys_succ (y : Int) : ysI (y + 1) = ysI y + 365 + lpI y := by
  unfold ysI lpI
  split <;> omega
theorem ys_add (y : Int) (n : Nat) : ysI y + 365 * n ≤ ysI (y + n) := by
  induction n with
  | zero => simp
  | succ n ih =>
    have h1 := ys_succ (y + n)
    have h2 := lpI_bd (y + n)
    have h3 : y + ((n + 1 : Nat) : Int) = y + n + 1 := by omega
    rw [h3, h1]
    omega
theorem ys_mono {y y' : Int} (h : y ≤ y') : ysI y + 365 * (y' - y) ≤ ysI y' := by
  have h1 := ys_add y (y' - y).toNat
  have h2 : y + (((y' - y).toNat : Nat) : Int) = y' := by omega
  rw [h2] at h1
  omega
/-- y is the year of the day n -/
def isY (n y : Int) : Prop := ysI y ≤ n ∧ n < ysI (y + 1)
theorem isY_one {n y y' : Int} (h : isY n y) (h' : isY n y') : y = y' := by
  obtain ⟨h1, h2⟩ := h
  obtain ⟨h3, h4⟩ := h'
  rcases Int.lt_trichotomy y y' with g | g | g
  · have := ys_mono (y := y + 1) (y' := y') (by omega)
    omega
  · exact g
  · have := ys_mono (y := y' + 1) (y' := y) (by omega)
    omega
/-- the class's guess -/
theorem yr_guess {n E : Int} (h1 : 146097 * E ≤ 400 * (n + 731204528)) (h2 : 400 * (n + 731204528) < 146097 * (E + 1)) : ysI (E - 2000000 - 1) ≤ n ∧ n < ysI (E - 2000000 + 2) := by
  unfold ysI
  constructor <;> omega
theorem yr_pick {n e : Int} (h1 : ysI (e - 1) ≤ n) (h2 : n < ysI (e + 2)) : (n < ysI e → isY n (e - 1)) ∧ (ysI e ≤ n → ysI (e + 1) ≤ n → isY n (e + 1)) ∧ (ysI e ≤ n → n < ysI (e + 1) → isY n e) := by
  refine ⟨fun h => ⟨h1, by rw [show e - 1 + 1 = e by omega]; exact h⟩, fun _ h => ⟨h, by rw [show e + 1 + 1 = e + 2 by omega]; exact h2⟩, fun h h' => ⟨h, h'⟩⟩
/-- the reference's year in its cycle: d is the day in the cycle of 400 years that begins with March -/
def cyD (d : Int) : Int := d - d / 1460 + d / 36524 - d / 146096
theorem cyD_mono {d d' : Int} (h0 : 0 ≤ d) (h : d ≤ d') (h' : d' ≤ 146096) : cyD d ≤ cyD d' := by
  have key : ∀ k : Nat, d + k ≤ 146096 → cyD d ≤ cyD (d + k) := by
    intro k
    induction k with
    | zero => intro _; simp
    | succ k ih =>
      intro hk
      have h1 := ih (by omega)
      have h2 : cyD (d + k) ≤ cyD (d + ((k + 1 : Nat) : Int)) := by
        unfold cyD
        omega
      omega
  have h1 := key (d' - d).toNat (by omega)
  rw [show d + (((d' - d).toNat : Nat) : Int) = d' by omega] at h1
  exact h1
/-- where a year of the cycle begins -/
def cyS (k : Int) : Int := 365 * k + k / 4 - k / 100
theorem cy_b : ∀ k : Fin 400, cyD (cyS k.val) / 365 = k.val ∧ cyD ((if (k.val : Int) = 399 then 146097 else cyS (k.val + 1)) - 1) / 365 = k.val := by decide +kernel
theorem cy_in {d : Int} (h0 : 0 ≤ d) (h1 : d ≤ 146096) : 0 ≤ cyD d / 365 ∧ cyD d / 365 ≤ 399 ∧ cyS (cyD d / 365) ≤ d ∧ d < (if cyD d / 365 = 399 then 146097 else cyS (cyD d / 365 + 1)) := by
  have b0 : 0 ≤ cyD d := by
    have := cyD_mono (d := 0) (d' := d) (by omega) h0 h1
    have e : cyD 0 = 0 := by decide
    omega
  have b1 : cyD d / 365 ≤ 399 := by
    have := cyD_mono (d := d) (d' := 146096) h0 h1 (by omega)
    have e : cyD 146096 = 145995 + 4 - 1 - 0 ∨ cyD 146096 / 365 = 399 := Or.inr (by decide)
    rcases e with e | e <;> omega
  have b2 : 0 ≤ cyD d / 365 := by omega
  generalize hk : cyD d / 365 = k at *
  have tb : ∀ j : Int, 0 ≤ j → j ≤ 399 → cyD (cyS j) / 365 = j ∧ cyD ((if j = 399 then 146097 else cyS (j + 1)) - 1) / 365 = j := by
    intro j g1 g2
    have h := cy_b ⟨j.toNat, by omega⟩
    have e0 : ((j.toNat : Nat) : Int) = j := by omega
    simp only [e0] at h
    exact h
  have sm : ∀ j : Int, 0 ≤ j → j ≤ 399 → 0 ≤ cyS j ∧ cyS j ≤ 146096 := by
    intro j g1 g2
    unfold cyS
    omega
  refine ⟨b2, b1, ?_, ?_⟩
  · rcases Int.lt_or_le d (cyS k) with g | g
    · exfalso
      have k1 : 1 ≤ k := by
        rcases Int.lt_or_le k 1 with q | q
        · have : k = 0 := by omega
          subst this
          have : cyS 0 = 0 := by decide
          omega
        · exact q
      have t1 := (tb (k - 1) (by omega) (by omega)).2
      rw [if_neg (by omega), show k - 1 + 1 = k by omega] at t1
      have := cyD_mono (d := d) (d' := cyS k - 1) h0 (by omega) (by have := (sm k b2 b1).2; omega)
      omega
    · exact g
  · by_cases q : k = 399
    · rw [if_pos q]; omega
    · rw [if_neg q]
      rcases Int.lt_or_le d (cyS (k + 1)) with g | g
      · exact g
      · exfalso
        have t1 := (tb (k + 1) (by omega) (by omega)).1
        have := cyD_mono (d := cyS (k + 1)) (d' := d) (sm (k + 1) (by omega) (by omega)).1 g h1
        omega
/-- the days of a year ahead of a month -/
def cuI (y m : Int) : Int := bm (m - 1).toNat + (if 2 < m then lpI y else 0)
theorem nu_cu (y m d : Int) : nuI y m d = ysI y + cuI y m + d - 1 := by
  unfold nuI cuI
  omega
theorem cu_succ {y m : Int} (h1 : 1 ≤ m) (h2 : m ≤ 11) : cuI y (m + 1) = cuI y m + mlI y m := by
  rcases mo12 (m := m) h1 (by omega) with rfl | rfl | rfl | rfl | rfl | rfl | rfl | rfl | rfl | rfl | rfl | rfl
  all_goals first | (exfalso; omega) | (simp [cuI, mlI, bm]; done) | (simp [cuI, mlI, bm]; omega)
theorem cu_mono {y m m' : Int} (h1 : 1 ≤ m) (h : m < m') (h2 : m' ≤ 12) : cuI y m + mlI y m ≤ cuI y m' := by
  have key : ∀ k : Nat, m + 1 + k ≤ 12 → cuI y m + mlI y m ≤ cuI y (m + 1 + k) := by
    intro k
    induction k with
    | zero =>
      intro _
      have := cu_succ (y := y) h1 (by omega)
      rw [show m + 1 + ((0 : Nat) : Int) = m + 1 by omega]
      omega
    | succ k ih =>
      intro hk
      have g1 := ih (by omega)
      have g2 := cu_succ (y := y) (m := m + 1 + k) (by omega) (by omega)
      have g3 := mlI_bd y (m + 1 + k)
      have e : m + 1 + ((k + 1 : Nat) : Int) = m + 1 + k + 1 := by omega
      rw [e, g2]
      omega
  have h3 := key (m' - m - 1).toNat (by omega)
  rw [show m + 1 + (((m' - m - 1).toNat : Nat) : Int) = m' by omega] at h3
  exact h3
theorem cu_lo {y m : Int} (h1 : 1 ≤ m) (h2 : m ≤ 12) : 0 ≤ cuI y m ∧ cuI y m + mlI y m ≤ 365 + lpI y := by
  have e1 : cuI y 1 = 0 := by simp [cuI, bm]
  have e12 : cuI y 12 = 334 + lpI y := by simp [cuI, bm]
  have l12 : mlI y 12 = 31 := by simp [mlI, bm]
  have b1 := mlI_bd y 1
  constructor
  · rcases Int.lt_or_le 1 m with g | g
    · have := cu_mono (y := y) (m := 1) (m' := m) (by omega) g h2
      omega
    · have : m = 1 := by omega
      subst this; omega
  · rcases Int.lt_or_le m 12 with g | g
    · have := cu_mono (y := y) h1 g (Int.le_refl 12)
      omega
    · have : m = 12 := by omega
      subst this; omega
/-- a day has one date -/
theorem nu_one {y m d y' m' d' : Int} (a1 : 1 ≤ m) (a2 : m ≤ 12) (a3 : 1 ≤ d) (a4 : d ≤ mlI y m) (b1 : 1 ≤ m') (b2 : m' ≤ 12) (b3 : 1 ≤ d') (b4 : d' ≤ mlI y' m') (h : nuI y m d = nuI y' m' d') : y = y' ∧ m = m' ∧ d = d' := by
  have n1 := nu_cu y m d
  have n2 := nu_cu y' m' d'
  have c1 := cu_lo (y := y) a1 a2
  have c2 := cu_lo (y := y') b1 b2
  have hy : y = y' := isY_one (n := nuI y m d) ⟨by omega, by rw [ys_succ]; omega⟩ ⟨by omega, by rw [ys_succ]; omega⟩
  subst hy
  have hm : m = m' := by
    rcases Int.lt_trichotomy m m' with g | g | g
    · have := cu_mono (y := y) a1 g b2
      omega
    · exact g
    · have := cu_mono (y := y) b1 g a2
      omega
  subst hm
  exact ⟨rfl, rfl, by omega⟩
theorem nu_isY {y m d : Int} (a1 : 1 ≤ m) (a2 : m ≤ 12) (a3 : 1 ≤ d) (a4 : d ≤ mlI y m) : isY (nuI y m d) y := by
  have n1 := nu_cu y m d
  have c1 := cu_lo (y := y) a1 a2
  exact ⟨by omega, by rw [ys_succ]; omega⟩
/-- the reference's date of a day is its date -/
theorem cv_ok {n era d yo pl mp dd mo yy : Int} (hz : n + 719468 = 146097 * era + d) (h0 : 0 ≤ d) (h1 : d ≤ 146096) (e1 : yo = cyD d / 365) (e2 : pl = d - (365 * yo + yo / 4 - yo / 100)) (e3 : mp = (5 * pl + 2) / 153) (e4 : dd = pl - (153 * mp + 2) / 5 + 1) (e5 : (mp < 10 ∧ mo = mp + 3) ∨ (10 ≤ mp ∧ mo = mp - 9)) (e6 : (mo ≤ 2 ∧ yy = yo + 400 * era + 1) ∨ (2 < mo ∧ yy = yo + 400 * era)) : 1 ≤ mo ∧ mo ≤ 12 ∧ 1 ≤ dd ∧ dd ≤ mlI yy mo ∧ nuI yy mo dd = n := by
  obtain ⟨c1, c2, c3, c4⟩ := cy_in h0 h1
  rw [← e1] at c1 c2 c3 c4
  unfold cyS at c3 c4
  have p0 : 0 ≤ pl := by omega
  have p1 : pl ≤ 365 ∧ (pl = 365 → lpI (yo + 400 * era + 1) = 1) := by
    by_cases q : yo = 399
    · rw [if_pos q] at c4
      subst q
      refine ⟨by omega, fun _ => ?_⟩
      unfold lpI
      rw [if_pos ⟨by omega, Or.inr (by omega)⟩]
    · rw [if_neg q] at c4
      have s1 : yo / 100 ≤ (yo + 1) / 100 := by omega
      have s2 : (yo + 1) / 4 ≤ yo / 4 + 1 := by omega
      refine ⟨by omega, fun g => ?_⟩
      have s3 : (yo + 1) / 4 = yo / 4 + 1 := by omega
      have s4 : (yo + 1) / 100 = yo / 100 := by omega
      have s5 : (yo + 1) % 4 = 0 := by clear c4 c3 e2 e3 e4 hz; omega
      have s6 : (yo + 1) % 100 ≠ 0 := by clear c4 c3 e2 e3 e4 hz; omega
      unfold lpI
      rw [if_pos ⟨by clear c4 c3 e2 e3 e4 hz; omega, Or.inl (by clear c4 c3 e2 e3 e4 hz; omega)⟩]
  have m0 : 0 ≤ mp ∧ mp ≤ 11 := by omega
  have hm : 1 ≤ mo ∧ mo ≤ 12 := by omega
  have hd : 1 ≤ dd := by omega
  have hlp := lpI_bd yy
  have hml : dd ≤ mlI yy mo := by
    have hv := ml_v yy mo
    rcases (show mp = 0 ∨ mp = 1 ∨ mp = 2 ∨ mp = 3 ∨ mp = 4 ∨ mp = 5 ∨ mp = 6 ∨ mp = 7 ∨ mp = 8 ∨ mp = 9 ∨ mp = 10 ∨ mp = 11 by omega) with g | g | g | g | g | g | g | g | g | g | g | g
    all_goals subst g
    all_goals first | omega | skip
    have hy : yy = yo + 400 * era + 1 := by omega
    rw [← hy] at p1
    by_cases q : pl = 365
    · have := p1.2 q
      omega
    · omega
  have hn := nu_ref (y := yy) (m := mo) (d := dd) (era := era) (yo := yo) (pl := pl) hm.1 hm.2 c1 c2 (fun g => ⟨by omega, by rw [show mo + 9 = mp by omega]; omega⟩) (fun g => ⟨by omega, by rw [show mo - 3 = mp by omega]; omega⟩)
  exact ⟨hm.1, hm.2, hd, hml, by omega⟩

/-! weeks, and the ten answers of date() -/
def fwI (y : Int) : Int := ysI y + 3 - (ysI y + 6) % 7
def thI (n : Int) : Int := n - (n + 3) % 7 + 3
def wkI (y : Int) : Int := (fwI (y + 1) - fwI y) / 7
def cvP (n y m d : Int) : Prop := 1 ≤ m ∧ m ≤ 12 ∧ 1 ≤ d ∧ d ≤ mlI y m ∧ nuI y m d = n
theorem cvP_isY {n y m d : Int} (h : cvP n y m d) : isY n y := by
  obtain ⟨h1, h2, h3, h4, h5⟩ := h
  rw [← h5]
  exact nu_isY h1 h2 h3 h4
theorem cvP_one {n y m d y' m' d' : Int} (h : cvP n y m d) (h' : cvP n y' m' d') : y = y' ∧ m = m' ∧ d = d' := by
  obtain ⟨h1, h2, h3, h4, h5⟩ := h
  obtain ⟨g1, g2, g3, g4, g5⟩ := h'
  exact nu_one h1 h2 h3 h4 g1 g2 g3 g4 (by rw [h5, g5])
theorem nu_first (y : Int) : nuI y 1 1 = ysI y := by simp [nuI, bm]
theorem nu_fourth (y : Int) : nuI y 1 4 = ysI y + 3 := by simp [nuI, bm]; omega
theorem nu_day (y m d : Int) : nuI y m d = nuI y m 1 + d - 1 := by unfold nuI; omega
theorem wk_cls (y : Int) : ((ysI y + 3) % 7 + 1 = 4 ∨ ((ysI y + 3) % 7 + 1 = 3 ∧ lpI y = 1)) ∧ wkI y = 53 ∨ ¬((ysI y + 3) % 7 + 1 = 4 ∨ ((ysI y + 3) % 7 + 1 = 3 ∧ lpI y = 1)) ∧ wkI y = 52 := by
  have h1 := ys_succ y
  have h2 := lpI_bd y
  unfold wkI fwI
  rw [h1]
  generalize ysI y = a at *
  generalize lpI y = b at *
  omega
theorem wy_ref {n y : Int} (h : isY n y) : (fwI (y + 1) ≤ n → isY (thI n) (y + 1)) ∧ (n < fwI y → isY (thI n) (y - 1)) ∧ (n < fwI (y + 1) → fwI y ≤ n → isY (thI n) y) := by
  obtain ⟨h1, h2⟩ := h
  have e1 := ys_succ y
  have e2 := ys_succ (y + 1)
  have e3 := ys_succ (y - 1)
  rw [show y - 1 + 1 = y by omega] at e3
  have b1 := lpI_bd y
  have b2 := lpI_bd (y + 1)
  have b3 := lpI_bd (y - 1)
  unfold isY thI fwI
  rw [show y - 1 + 1 = y by omega]
  generalize ysI (y + 1 + 1) = a2 at *
  generalize ysI (y + 1) = a1 at *
  generalize ysI (y - 1) = a0 at *
  generalize ysI y = a at *
  generalize lpI y = l0 at *
  generalize lpI (y + 1) = l1 at *
  generalize lpI (y - 1) = l2 at *
  refine ⟨fun g => ?_, fun g => ?_, fun g g' => ?_⟩
  · omega
  · omega
  · omega
theorem wk_ref {n w : Int} (h : isY (thI n) w) : 0 ≤ n - fwI w ∧ (n - fwI w) / 7 = (thI n - ysI w) / 7 ∧ 0 ≤ thI n - ysI w ∧ thI n - ysI w ≤ 365 ∧ n - fwI w ≤ 371 := by
  obtain ⟨h1, h2⟩ := h
  have e1 := ys_succ w
  have b1 := lpI_bd w
  rw [e1] at h2
  unfold thI at *
  unfold fwI
  generalize ysI w = a at *
  generalize lpI w = b at *
  omega
/-- the ten parts of a day -/
def dtP (n k r : Int) : Prop := ∃ y m d w : Int, cvP n y m d ∧ isY (thI n) w ∧ ((k = 0 ∧ r = y) ∨ (k = 1 ∧ r = m) ∨ (k = 2 ∧ r = d) ∨ (k = 3 ∧ r = (n + 3) % 7 + 1) ∨ (k = 4 ∧ r = n - ysI y + 1) ∨ (k = 5 ∧ r = w) ∨ (k = 6 ∧ r = (thI n - ysI w) / 7 + 1) ∨ (k = 7 ∧ r = lpI y) ∨ (k = 8 ∧ r = mlI y m) ∨ (k = 9 ∧ r = wkI w))
theorem dtP_one {n k r r' : Int} (h : dtP n k r) (h' : dtP n k r') : r = r' := by
  obtain ⟨y, m, d, w, a1, a2, a3⟩ := h
  obtain ⟨y', m', d', w', b1, b2, b3⟩ := h'
  obtain ⟨rfl, rfl, rfl⟩ := cvP_one a1 b1
  cases isY_one a2 b2
  generalize (thI n - ysI w) / 7 + 1 = q1 at *
  generalize (n + 3) % 7 + 1 = q2 at *
  clear a1 a2 b1 b2
  rcases a3 with ⟨rfl, rfl⟩ | ⟨rfl, rfl⟩ | ⟨rfl, rfl⟩ | ⟨rfl, rfl⟩ | ⟨rfl, rfl⟩ | ⟨rfl, rfl⟩ | ⟨rfl, rfl⟩ | ⟨rfl, rfl⟩ | ⟨rfl, rfl⟩ | ⟨rfl, rfl⟩ <;> omega
theorem cv_days {n y m : Int} (h1 : 1 ≤ m) (h2 : m ≤ 12) (h3 : nuI y m 1 ≤ n) (h4 : n < nuI y m 1 + mlI y m) : cvP n y m (n - nuI y m 1 + 1) := ⟨h1, h2, by omega, by omega, by rw [nu_day]; omega⟩
theorem th_bd (n : Int) : n - 3 ≤ thI n ∧ thI n ≤ n + 3 := by unfold thI; omega
theorem fw_bd (y : Int) : ysI y - 3 ≤ fwI y ∧ fwI y ≤ ysI y + 3 := by unfold fwI; omega
theorem isY_in2 {n y : Int} (h : isY n y) (h1 : -365961670 ≤ n) (h2 : n ≤ 364522980) : -1000000 ≤ y ∧ y ≤ 1000000 := by
  have e1 : ysI (-1000000) = -365962028 := by decide
  have e2 : ysI 1000001 = 364523338 := by decide
  obtain ⟨g1, g2⟩ := h
  constructor
  · rcases Int.lt_or_le y (-1000000) with g | g
    · have := ys_mono (y := y + 1) (y' := -1000000) (by omega)
      omega
    · exact g
  · rcases Int.lt_or_le 1000000 y with g | g
    · have := ys_mono (y := 1000001) (y' := y) (by omega)
      omega
    · exact g
theorem cv_ex (n : Int) : ∃ y m d : Int, cvP n y m d := by
  have h := cy_in (d := (n + 719468) % 146097) (by omega) (by omega)
  let era := (n + 719468) / 146097
  let d := (n + 719468) % 146097
  let yo := cyD d / 365
  let pl := d - (365 * yo + yo / 4 - yo / 100)
  let mp := (5 * pl + 2) / 153
  let mo := if mp < 10 then mp + 3 else mp - 9
  let yy := if mo ≤ 2 then yo + 400 * era + 1 else yo + 400 * era
  refine ⟨yy, mo, pl - (153 * mp + 2) / 5 + 1, ?_⟩
  refine cv_ok (era := era) (d := d) (yo := yo) (pl := pl) (mp := mp) ?_ ?_ ?_ rfl rfl rfl rfl ?_ ?_
  · show n + 719468 = 146097 * ((n + 719468) / 146097) + (n + 719468) % 146097
    omega
  · show 0 ≤ (n + 719468) % 146097
    omega
  · show (n + 719468) % 146097 ≤ 146096
    omega
  · show (mp < 10 ∧ (if mp < 10 then mp + 3 else mp - 9) = mp + 3) ∨ (10 ≤ mp ∧ (if mp < 10 then mp + 3 else mp - 9) = mp - 9)
    generalize mp = q
    split <;> omega
  · show (mo ≤ 2 ∧ (if mo ≤ 2 then yo + 400 * era + 1 else yo + 400 * era) = yo + 400 * era + 1) ∨ (2 < mo ∧ (if mo ≤ 2 then yo + 400 * era + 1 else yo + 400 * era) = yo + 400 * era)
    generalize mo = q
    split <;> omega
theorem wy_ex (n : Int) : ∃ w : Int, isY (thI n) w := by
  obtain ⟨y, m, d, h⟩ := cv_ex (thI n)
  exact ⟨y, cvP_isY h⟩
theorem dt_mk {n k r : Int} (f : ∀ y m d w : Int, cvP n y m d → isY n y → isY (thI n) w → ((k = 0 ∧ r = y) ∨ (k = 1 ∧ r = m) ∨ (k = 2 ∧ r = d) ∨ (k = 3 ∧ r = (n + 3) % 7 + 1) ∨ (k = 4 ∧ r = n - ysI y + 1) ∨ (k = 5 ∧ r = w) ∨ (k = 6 ∧ r = (thI n - ysI w) / 7 + 1) ∨ (k = 7 ∧ r = lpI y) ∨ (k = 8 ∧ r = mlI y m) ∨ (k = 9 ∧ r = wkI w))) : dtP n k r := by
  obtain ⟨y, m, d, h⟩ := cv_ex n
  obtain ⟨w, h'⟩ := wy_ex n
  exact ⟨y, m, d, w, h, h', f y m d w h (cvP_isY h) h'⟩
theorem dt_0 {n y r : Int} (h : isY n y) (hr : r = y) : dtP n 0 r := dt_mk fun y' m d w _ h2 _ => Or.inl ⟨rfl, by rw [hr]; exact isY_one h h2⟩
theorem dt_1 {n y m d r : Int} (h : cvP n y m d) (hr : r = m) : dtP n 1 r := dt_mk fun y' m' d' w h1 _ _ => Or.inr (Or.inl ⟨rfl, by rw [hr]; exact (cvP_one h h1).2.1⟩)
theorem dt_2 {n y m d r : Int} (h : cvP n y m d) (hr : r = d) : dtP n 2 r := dt_mk fun y' m' d' w h1 _ _ => Or.inr (Or.inr (Or.inl ⟨rfl, by rw [hr]; exact (cvP_one h h1).2.2⟩))
theorem dt_3 {n r : Int} (hr : r = (n + 3) % 7 + 1) : dtP n 3 r := dt_mk fun y' m' d' w _ _ _ => Or.inr (Or.inr (Or.inr (Or.inl ⟨rfl, hr⟩)))
theorem dt_4 {n y r : Int} (h : isY n y) (hr : r = n - ysI y + 1) : dtP n 4 r := dt_mk fun y' m' d' w _ h2 _ => Or.inr (Or.inr (Or.inr (Or.inr (Or.inl ⟨rfl, by rw [hr, isY_one h h2]⟩))))
theorem dt_5 {n y r : Int} (h : isY (thI n) y) (hr : r = y) : dtP n 5 r := dt_mk fun y' m' d' w _ _ h2 => Or.inr (Or.inr (Or.inr (Or.inr (Or.inr (Or.inl ⟨rfl, by rw [hr, isY_one h h2]⟩)))))
theorem dt_6 {n y r : Int} (h : isY (thI n) y) (hr : r = (thI n - ysI y) / 7 + 1) : dtP n 6 r := dt_mk fun y' m' d' w _ _ h2 => Or.inr (Or.inr (Or.inr (Or.inr (Or.inr (Or.inr (Or.inl ⟨rfl, by rw [hr, isY_one h h2]⟩))))))
theorem dt_7 {n y r : Int} (h : isY n y) (hr : r = lpI y) : dtP n 7 r := dt_mk fun y' m' d' w _ h2 _ => Or.inr (Or.inr (Or.inr (Or.inr (Or.inr (Or.inr (Or.inr (Or.inl ⟨rfl, by rw [hr, isY_one h h2]⟩)))))))
theorem dt_8 {n y m d r : Int} (h : cvP n y m d) (hr : r = mlI y m) : dtP n 8 r := dt_mk fun y' m' d' w h1 _ _ => Or.inr (Or.inr (Or.inr (Or.inr (Or.inr (Or.inr (Or.inr (Or.inr (Or.inl ⟨rfl, by rw [hr, (cvP_one h h1).1, (cvP_one h h1).2.1]⟩))))))))
theorem dt_9 {n y r : Int} (h : isY (thI n) y) (hr : r = wkI y) : dtP n 9 r := dt_mk fun y' m' d' w _ _ h2 => Or.inr (Or.inr (Or.inr (Or.inr (Or.inr (Or.inr (Or.inr (Or.inr (Or.inr ⟨rfl, by rw [hr, isY_one h h2]⟩))))))))
theorem mo_y {n y m : Int} (h : isY n y) (h' : 1 ≤ m ∧ m ≤ 12 ∧ ∃ y : Int, isY n y ∧ nuI y m 1 ≤ n ∧ n < nuI y m 1 + mlI y m) : 1 ≤ m ∧ m ≤ 12 ∧ nuI y m 1 ≤ n ∧ n < nuI y m 1 + mlI y m ∧ 0 ≤ mlI y m ∧ mlI y m ≤ 31 := by
  obtain ⟨h1, h2, y', h3, h4, h5⟩ := h'
  cases isY_one h h3
  exact ⟨h1, h2, h4, h5, (mlI_bd _ _).1, (mlI_bd _ _).2⟩
theorem ys_bd2 {y : Int} (h1 : -1000002 ≤ y) (h2 : y ≤ 1000002) : -370000000 ≤ ysI y ∧ ysI y ≤ 370000000 := by unfold ysI; omega
theorem wk_bd (y : Int) : 52 ≤ wkI y ∧ wkI y ≤ 53 := by have := wk_cls y; omega
def dvD (n k : Int) : Prop := -365961662 ≤ n ∧ n ≤ 364522971 ∧ 0 ≤ k ∧ k ≤ 9
theorem ys_bd3 {y : Int} (h1 : -2147483650 ≤ y) (h2 : y ≤ 2147483650) : -1000000000000 ≤ ysI y ∧ ysI y ≤ 1000000000000 := by unfold ysI; omega

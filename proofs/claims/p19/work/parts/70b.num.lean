/-! the numbers of days -/
def lpI (y : Int) : Int := if y % 4 = 0 ∧ (y % 100 ≠ 0 ∨ y % 400 = 0) then 1 else 0
theorem lpI_bd (y : Int) : 0 ≤ lpI y ∧ lpI y ≤ 1 := by
  unfold lpI
  split <;> omega
def ysI (y : Int) : Int := 365 * (y + 2000000) + (y + 2000003) / 4 - (y + 2000099) / 100 + (y + 2000399) / 400 - 731204528
theorem ysI_bd {y : Int} (h1 : -1999999 ≤ y) (h2 : y ≤ 1999999) : -1000000000 ≤ ysI y ∧ ysI y ≤ 1000000000 := by
  unfold ysI
  omega
def mlI (y m : Int) : Int := if m < 1 ∨ 12 < m then 0 else bm m.toNat - bm (m - 1).toNat + (if m = 2 then lpI y else 0)
def nuI (y m d : Int) : Int := ysI y + bm (m - 1).toNat + (if 2 < m then lpI y else 0) + d - 1
theorem mo12 {m : Int} (h1 : 1 ≤ m) (h2 : m ≤ 12) : m = 1 ∨ m = 2 ∨ m = 3 ∨ m = 4 ∨ m = 5 ∨ m = 6 ∨ m = 7 ∨ m = 8 ∨ m = 9 ∨ m = 10 ∨ m = 11 ∨ m = 12 := by omega
theorem ml_v (y m : Int) : ((m < 1 ∨ 12 < m) ∧ mlI y m = 0) ∨ ((m = 1 ∨ m = 3 ∨ m = 5 ∨ m = 7 ∨ m = 8 ∨ m = 10 ∨ m = 12) ∧ mlI y m = 31) ∨ ((m = 4 ∨ m = 6 ∨ m = 9 ∨ m = 11) ∧ mlI y m = 30) ∨ (m = 2 ∧ mlI y m = 28 + lpI y) := by
  by_cases h : m < 1 ∨ 12 < m
  · exact Or.inl ⟨h, by unfold mlI; rw [if_pos h]⟩
  · rcases mo12 (m := m) (by omega) (by omega) with rfl | rfl | rfl | rfl | rfl | rfl | rfl | rfl | rfl | rfl | rfl | rfl
    · exact Or.inr (Or.inl ⟨by omega, by simp [mlI, bm]⟩)
    · exact Or.inr (Or.inr (Or.inr ⟨rfl, by simp [mlI, bm]⟩))
    · exact Or.inr (Or.inl ⟨by omega, by simp [mlI, bm]⟩)
    · exact Or.inr (Or.inr (Or.inl ⟨by omega, by simp [mlI, bm]⟩))
    · exact Or.inr (Or.inl ⟨by omega, by simp [mlI, bm]⟩)
    · exact Or.inr (Or.inr (Or.inl ⟨by omega, by simp [mlI, bm]⟩))
    · exact Or.inr (Or.inl ⟨by omega, by simp [mlI, bm]⟩)
    · exact Or.inr (Or.inl ⟨by omega, by simp [mlI, bm]⟩)
    · exact Or.inr (Or.inr (Or.inl ⟨by omega, by simp [mlI, bm]⟩))
    · exact Or.inr (Or.inl ⟨by omega, by simp [mlI, bm]⟩)
    · exact Or.inr (Or.inr (Or.inl ⟨by omega, by simp [mlI, bm]⟩))
    · exact Or.inr (Or.inl ⟨by omega, by simp [mlI, bm]⟩)
theorem mlI_bd (y m : Int) : 0 ≤ mlI y m ∧ mlI y m ≤ 31 := by
  have h1 := ml_v y m
  have h2 := lpI_bd y
  omega
/-- a number of 0 .. 399 years in its cycle -/
theorem cyc_b : ∀ k : Fin 400, ((k.val : Int) + 3) / 4 - ((k.val : Int) + 99) / 100 + ((k.val : Int) + 399) / 400 + (if (k.val : Int) % 4 = 0 ∧ ((k.val : Int) % 100 ≠ 0 ∨ (k.val : Int) % 400 = 0) then 1 else 0) = (k.val : Int) / 4 - (k.val : Int) / 100 + 1 := by decide +kernel
theorem cyc_a : ∀ k : Fin 400, ((k.val : Int) + 4) / 4 - ((k.val : Int) + 100) / 100 + ((k.val : Int) + 400) / 400 = (k.val : Int) / 4 - (k.val : Int) / 100 + 1 := by decide +kernel
theorem nu_hi {y era yo : Int} (hy : y = 400 * era + yo) (h1 : 0 ≤ yo) (h2 : yo ≤ 399) : era * 146097 + yo * 365 + yo / 4 - yo / 100 - 59 - 719468 = ysI y + lpI y := by
  have hk := cyc_b ⟨yo.toNat, by omega⟩
  have e0 : ((yo.toNat : Nat) : Int) = yo := by omega
  simp only [e0] at hk
  have g1 : (y + 2000003) / 4 = 100 * era + 500000 + (yo + 3) / 4 := by omega
  have g2 : (y + 2000099) / 100 = 4 * era + 20000 + (yo + 99) / 100 := by omega
  have g3 : (y + 2000399) / 400 = era + 5000 + (yo + 399) / 400 := by omega
  have g4 : lpI y = if yo % 4 = 0 ∧ (yo % 100 ≠ 0 ∨ yo % 400 = 0) then 1 else 0 := by
    unfold lpI
    rw [show y % 4 = yo % 4 by omega, show y % 100 = yo % 100 by omega, show y % 400 = yo % 400 by omega]
  rw [← g4] at hk
  unfold ysI
  rw [g1, g2, g3]
  generalize lpI y = L at *
  generalize (yo + 3) / 4 = a1 at *
  generalize (yo + 99) / 100 = a2 at *
  generalize (yo + 399) / 400 = a3 at *
  generalize yo / 4 = a4 at *
  generalize yo / 100 = a5 at *
  omega
theorem nu_lo {y era yo : Int} (hy : y - 1 = 400 * era + yo) (h1 : 0 ≤ yo) (h2 : yo ≤ 399) : era * 146097 + yo * 365 + yo / 4 - yo / 100 + 306 - 719468 = ysI y := by
  have hk := cyc_a ⟨yo.toNat, by omega⟩
  have e0 : ((yo.toNat : Nat) : Int) = yo := by omega
  simp only [e0] at hk
  have g1 : (y + 2000003) / 4 = 100 * era + 500000 + (yo + 4) / 4 := by omega
  have g2 : (y + 2000099) / 100 = 4 * era + 20000 + (yo + 100) / 100 := by omega
  have g3 : (y + 2000399) / 400 = era + 5000 + (yo + 400) / 400 := by omega
  unfold ysI
  rw [g1, g2, g3]
  generalize (yo + 4) / 4 = a1 at *
  generalize (yo + 100) / 100 = a2 at *
  generalize (yo + 400) / 400 = a3 at *
  generalize yo / 4 = a4 at *
  generalize yo / 100 = a5 at *
  omega
/-- the reference's number of a day is the class's -/
theorem nu_ref {y m d era yo pl : Int} (hm1 : 1 ≤ m) (hm2 : m ≤ 12) (h1 : 0 ≤ yo) (h2 : yo ≤ 399) (hlo : m ≤ 2 → y - 1 = 400 * era + yo ∧ pl = (153 * (m + 9) + 2) / 5 + d - 1) (hhi : 2 < m → y = 400 * era + yo ∧ pl = (153 * (m - 3) + 2) / 5 + d - 1) : era * 146097 + yo * 365 + yo / 4 - yo / 100 + pl - 719468 = nuI y m d := by
  unfold nuI
  rcases mo12 hm1 hm2 with rfl | rfl | rfl | rfl | rfl | rfl | rfl | rfl | rfl | rfl | rfl | rfl
  · obtain ⟨g1, g2⟩ := hlo (by omega)
    have g3 := nu_lo g1 h1 h2
    simp [bm]; omega
  · obtain ⟨g1, g2⟩ := hlo (by omega)
    have g3 := nu_lo g1 h1 h2
    simp [bm]; omega
  all_goals
    obtain ⟨g1, g2⟩ := hhi (by omega)
    have g3 := nu_hi g1 h1 h2
    simp [bm]; omega

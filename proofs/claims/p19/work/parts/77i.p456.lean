/-! weekDay(), months(), easter(): the numbers -/
theorem fw_mono {y y' : Int} (h : y ≤ y') : fwI y ≤ fwI y' := by
  rcases Int.lt_or_le y y' with g | g
  · have h1 := ys_mono (y := y) (y' := y') h
    have h2 := fw_bd y
    have h3 := fw_bd y'
    omega
  · have e : y = y' := by omega
    rw [e]; exact Int.le_refl _
def wdV (y w d : Int) : Prop := 1 ≤ d ∧ d ≤ 7 ∧ 1 ≤ w ∧ w ≤ wkI y ∧ -365961662 ≤ fwI y + 7 * (w - 1) + d - 1 ∧ fwI y + 7 * (w - 1) + d - 1 ≤ 364522971
def wdG (y w d r : Int) : Prop := r = fwI y + 7 * (w - 1) + d - 1
theorem wdG_one {y w d r r' : Int} (h : wdG y w d r) (h' : wdG y w d r') : r = r' := by unfold wdG at *; omega
theorem wd_year {y w d : Int} (h : wdV y w d) : -999999 ≤ y ∧ y ≤ 999999 := by
  obtain ⟨h1, h2, h3, h4, h5, h6⟩ := h
  constructor
  · rcases Int.lt_or_le y (-999999) with g | g
    · have e1 : fwI (-999999) = -365961662 := by decide
      have h7 := fw_mono (y := y + 1) (y' := -999999) (by omega)
      have h8 : wkI y = (fwI (y + 1) - fwI y) / 7 := rfl
      omega
    · exact g
  · rcases Int.lt_or_le 999999 y with g | g
    · have e1 : fwI 1000000 = 364522974 := by decide
      have h7 := fw_mono (y := 1000000) (y' := y) (by omega)
      omega
    · exact g
/-- the length of a month -/
theorem ml_lo {y m : Int} (h1 : 1 ≤ m) (h2 : m ≤ 12) : 28 ≤ mlI y m ∧ mlI y m ≤ 31 := by
  have h3 := ml_v y m
  have h4 := lpI_bd y
  omega
/-- months -/
def mtM (y m k : Int) : Int := y * 12 + m - 1 + k
def mtG (n k r : Int) : Prop := ∃ y m d : Int, cvP n y m d ∧ r = nuI (mtM y m k / 12) (mtM y m k % 12 + 1) (if d < mlI (mtM y m k / 12) (mtM y m k % 12 + 1) then d else mlI (mtM y m k / 12) (mtM y m k % 12 + 1))
def mtV (n k : Int) : Prop := -365961662 ≤ n ∧ n ≤ 364522971 ∧ ∃ y m d : Int, cvP n y m d ∧ -999999 ≤ mtM y m k / 12 ∧ mtM y m k / 12 ≤ 999999
theorem mtG_one {n k r r' : Int} (h : mtG n k r) (h' : mtG n k r') : r = r' := by
  obtain ⟨y, m, d, a, e⟩ := h
  obtain ⟨y', m', d', a', e'⟩ := h'
  obtain ⟨rfl, rfl, rfl⟩ := cvP_one a a'
  rw [e, e']
theorem mtV_out {n k y m d : Int} (h : cvP n y m d) (ho : mtM y m k / 12 < -999999 ∨ 999999 < mtM y m k / 12) : ¬ mtV n k := by
  rintro ⟨-, -, y', m', d', h', g1, g2⟩
  obtain ⟨rfl, rfl, rfl⟩ := cvP_one h h'
  omega
theorem mtV_in {n k y m d : Int} (h1 : -365961662 ≤ n) (h2 : n ≤ 364522971) (h : cvP n y m d) (g1 : -999999 ≤ mtM y m k / 12) (g2 : mtM y m k / 12 ≤ 999999) : mtV n k := ⟨h1, h2, y, m, d, h, g1, g2⟩
theorem mt_bd {y m d : Int} (h1 : -999999 ≤ y) (h2 : y ≤ 999999) (h3 : 1 ≤ m) (h4 : m ≤ 12) (h5 : 1 ≤ d) (h6 : d ≤ 31) : -370000000 ≤ nuI y m d ∧ nuI y m d ≤ 370000000 := by
  have h7 := nu_cu y m d
  have h8 := cu_lo (y := y) h3 h4
  have h9 := lpI_bd y
  have h10 := mlI_bd y m
  have h11 := ys_bd2 (y := y) (by omega) (by omega)
  have h12 : -366000000 ≤ ysI y ∧ ysI y ≤ 366000000 := by unfold ysI; omega
  omega
theorem xor_neg (x y : Int64) : (x ^^^ y).toInt < 0 ↔ ((x.toInt < 0) ↔ ¬ (y.toInt < 0)) := by
  have h := BitVec.msb_xor (x := x.toBitVec) (y := y.toBitVec)
  rw [BitVec.msb_eq_toInt, BitVec.msb_eq_toInt, BitVec.msb_eq_toInt, ← Int64.toBitVec_xor] at h
  change decide ((x ^^^ y).toInt < 0) = (decide (x.toInt < 0) ^^ decide (y.toInt < 0)) at h
  by_cases a : x.toInt < 0 <;> by_cases b : y.toInt < 0 <;> by_cases c : (x ^^^ y).toInt < 0 <;> simp [a, b, c] at h ⊢
/-- Easter -/
theorem es_fin : ∀ g : Fin 19, ∀ h : Fin 30, ∀ s : Fin 7, (if h.val = 29 ∨ (h.val = 28 ∧ 11 ≤ g.val) then (h.val : Int) - 1 + ((s.val : Int) + 1) % 7 else (h.val : Int) + s.val) = (h.val : Int) + s.val - 7 * (((g.val : Int) + 11 * h.val + 22 * s.val) / 451) := by decide +kernel
def esV (y : Int) : Prop := 0 ≤ y ∧ y ≤ 999999
/-- epact, days to Sunday, days behind March 22 -/
def esH (y : Int) : Int := (19 * (y % 19) + y / 100 - y / 100 / 4 - (y / 100 - (y / 100 + 8) / 25 + 1) / 3 + 15) % 30
def esS (y : Int) : Int := (32 + 2 * (y / 100 % 4) + 2 * (y % 100 / 4) - esH y - y % 100 % 4) % 7
def esL (y : Int) : Int := esH y + esS y - 7 * ((y % 19 + 11 * esH y + 22 * esS y) / 451)
def esG (y r : Int) : Prop := r = nuI y ((esL y + 114) / 31) ((esL y + 114) % 31 + 1)
theorem esG_one {y r r' : Int} (h : esG y r) (h' : esG y r') : r = r' := by unfold esG at *; omega
theorem es_h (y : Int) (h0 : 0 ≤ y) : (y / 100 - y / 100 / 4 - (8 * (y / 100) + 13) / 25 + 19 * (y % 19) + 15) % 30 = esH y := by
  unfold esH
  generalize y / 100 = c
  generalize y % 19 = g
  have e : (8 * c + 13) / 25 = (c - (c + 8) / 25 + 1) / 3 := by omega
  rw [e]
  congr 1
  omega
theorem es_bd (y : Int) : 0 ≤ esH y ∧ esH y ≤ 29 ∧ 0 ≤ esS y ∧ esS y ≤ 6 := by unfold esS; unfold esH; omega
theorem es_lbd (y : Int) : 0 ≤ esL y ∧ esL y ≤ 35 := by
  have h := es_bd y
  unfold esL
  have g1 : 0 ≤ y % 19 := by omega
  have g2 : y % 19 ≤ 18 := by omega
  generalize y % 19 = g at *
  generalize esH y = a at *
  generalize esS y = b at *
  omega
theorem es_l {y i : Int} (h0 : 0 ≤ y) (hi : ((esH y = 29 ∨ (esH y = 28 ∧ 11 ≤ y % 19)) ∧ i = esH y - 1) ∨ (¬ (esH y = 29 ∨ (esH y = 28 ∧ 11 ≤ y % 19)) ∧ i = esH y)) : i - (y + y / 4 + i + 2 - y / 100 + y / 100 / 4) % 7 + 6 = esL y := by
  have hb := es_bd y
  have hf := es_fin ⟨(y % 19).toNat, by omega⟩ ⟨(esH y).toNat, by omega⟩ ⟨(esS y).toNat, by omega⟩
  dsimp only at hf
  have g1 : ((y % 19).toNat : Int) = y % 19 := by omega
  have g2 : ((esH y).toNat : Int) = esH y := by omega
  have g3 : ((esS y).toNat : Int) = esS y := by omega
  rw [g1, g2, g3] at hf
  have hL : esL y = esH y + esS y - 7 * ((y % 19 + 11 * esH y + 22 * esS y) / 451) := rfl
  have hS : esS y = (32 + 2 * (y / 100 % 4) + 2 * (y % 100 / 4) - esH y - y % 100 % 4) % 7 := rfl
  rw [← hL] at hf
  have hA : (esH y = 29 ∨ (esH y = 28 ∧ 11 ≤ y % 19)) → esH y - 1 + (esS y + 1) % 7 = esL y := fun c => by rw [if_pos (by omega)] at hf; exact hf
  have hB : ¬ (esH y = 29 ∨ (esH y = 28 ∧ 11 ≤ y % 19)) → esH y + esS y = esL y := fun c => by rw [if_neg (by omega)] at hf; exact hf
  clear hL hf g1 g2 g3
  generalize esH y = h at *
  generalize esS y = s at *
  generalize esL y = L at *
  have hw : (6 - (y + y / 4 + i + 2 - y / 100 + y / 100 / 4)) % 7 = (s + (h - i)) % 7 := by
    rw [hS]
    omega
  rcases hi with ⟨hc, hi⟩ | ⟨hc, hi⟩
  · replace hA := hA hc
    clear hB
    generalize y + y / 4 + i + 2 - y / 100 + y / 100 / 4 = W at *
    clear hS
    omega
  · replace hB := hB hc
    clear hA
    generalize y + y / 4 + i + 2 - y / 100 + y / 100 / 4 = W at *
    clear hS
    omega

/-! p19: what is looked at behind; the verdict -/
section LOOK
variable {T L : List Int} {w b : Int}
theorem lsR_01 (L : List Int) (u : Int) : lsR L u = 59 ∨ lsR L u = 60 := by unfold lsR; split; exact Or.inr rfl; exact Or.inl rfl
theorem lsR_in {u : Int} (hL : ∀ d ∈ L, -365961662 ≤ d ∧ d ≤ 364522971) (h : lsR L u = 60) : -365961662 * 1440 ≤ u ∧ u < 364522972 * 1440 := by
  unfold lsR at h
  split at h
  · rename_i q
    have := hL _ q.2
    omega
  · cases h
theorem ys_lo : ysI (-999999) = -365961662 := by decide
theorem ys_hi : ysI 1000000 = 364522972 := by decide
theorem y_in {y : Int} (h1 : -999999 ≤ y) (h2 : y ≤ 999999) : -365961662 ≤ ysI y ∧ ysI y + 365 + lpI y ≤ 364522972 := by
  have a := ys_mono h1
  have c := ys_mono (show y + 1 ≤ 1000000 by omega)
  have d := ys_succ y
  rw [ys_lo] at a
  rw [ys_hi] at c
  omega
theorem nu_in {y m d : Int} (h1 : -999999 ≤ y) (h2 : y ≤ 999999) (m1 : 1 ≤ m) (m2 : m ≤ 12) (d1 : 1 ≤ d) (d2 : d ≤ mlI y m) : -365961662 ≤ nuI y m d ∧ nuI y m d ≤ 364522971 := by
  have a := y_in h1 h2
  have c := cu_lo (y := y) m1 m2
  rw [nu_cu]
  omega
theorem ml_1 {y m : Int} (m1 : 1 ≤ m) (m2 : m ≤ 12) : 1 ≤ mlI y m := by
  have h : ∀ k : Fin 12, 1 ≤ bm (k.val + 1) - bm k.val := by decide
  have h1 : 1 ≤ bm ((m - 1).toNat + 1) - bm (m - 1).toNat := h ⟨(m - 1).toNat, by omega⟩
  have := lpI_bd y
  unfold mlI
  rw [if_neg (by omega)]
  have e1 : m.toNat = (m - 1).toNat + 1 := by omega
  rw [e1]
  split <;> omega
theorem tl_bd {f : fN} (h4 : f 4 = 0 ∨ f 4 = 1) (h5 : 0 ≤ f 5 ∧ f 5 ≤ 999999) : -999999 ≤ tlF f ∧ tlF f ≤ 999999 := by unfold tlF; split <;> omega
/-- a date -/
def ngB (f : fN) : Int := if f 4 = 1 ∧ f 5 = 0 then f 2 else -1
theorem ld_same {f g : fN} {lo hi : Int} (h : DP f g lo hi) (hlo : 0 ≤ lo) : (dsB f = -1 ∨ (lo ≤ dsB f ∧ dsB f ≤ hi)) ∧ (ngB f = -1 ∨ (0 ≤ ngB f ∧ dsB f = ngB f)) ∧ (∀ b, omI (ldB g) (omI (ngB f) b) = omI (dsB f) b) ∧ (dsB f = -1 → ldH g = 1 ∧ ldD g = dsD f ∧ -365961662 ≤ dsD f ∧ dsD f ≤ 364522971) ∧ 0 ≤ g 1 ∧ (ldH g = 0 ∨ ldH g = 1) := by
  obtain ⟨⟨k1, k2, k3⟩, h2, h4, h5, hy, hA, hB, hC, hD⟩ := h
  have ty := tl_bd h4 h5
  have tin := y_in ty.1 ty.2
  have tlp := lpI_bd (tlF f)
  -- what the reference finds, in the words of the fields
  have key : ldB g = -1 ∨ (lo ≤ ldB g ∧ ldB g ≤ hi ∧ (f 4 = 1 ∧ f 5 = 0 → f 2 ≤ ldB g)) := by
    unfold ldB ldP
    rw [if_neg (show ¬ g 1 < 0 by omega)]
    by_cases z3 : f 0 = 3
    · rw [if_neg (show ¬ (g 1 = 0 ∨ g 1 = 4) by omega), if_neg (show ¬ g 1 = 2 by omega), if_pos (show g 1 = 3 by omega), if_neg (show ¬ (0 : Int) ≤ -1 by decide)]
      have e : ldD g = ysI (tlF f) := by unfold ldD; rw [if_neg (show ¬ (g 1 = 0 ∨ g 1 = 4) by omega), if_neg (show ¬ g 1 = 2 by omega), if_pos (show g 1 = 3 by omega), h2]
      rw [e, if_pos (show -365961662 ≤ ysI (tlF f) ∧ ysI (tlF f) ≤ 364522971 by omega)]
      exact Or.inl rfl
    · have a := hA z3
      have ny : f 4 = 1 ∧ f 5 = 0 → f 2 ≤ f 6 := fun q => (hy (Or.inl q)).2.2.2 z3
      by_cases z0 : f 0 = 0 ∨ f 0 = 4
      · rw [if_pos (show g 1 = 0 ∨ g 1 = 4 by omega)]
        by_cases c1 : 1 ≤ g 4 ∧ g 4 ≤ 12
        · rw [if_neg (show ¬ ¬ (1 ≤ g 4 ∧ g 4 ≤ 12) from fun q => q c1)]
          by_cases c2 : g 1 = 0 ∧ ¬ (1 ≤ g 6 ∧ g 6 ≤ mlI (g 2) (g 4))
          · have c := hB (Or.inl (by omega))
            rw [if_pos c2, if_pos (show 0 ≤ g 7 by omega)]
            exact Or.inr ⟨by omega, by omega, fun q => by have := ny q; omega⟩
          · rw [if_neg c2, if_neg (show ¬ (0 : Int) ≤ -1 by decide)]
            have e : -365961662 ≤ ldD g ∧ ldD g ≤ 364522971 := by
              unfold ldD
              rw [if_pos (show g 1 = 0 ∨ g 1 = 4 by omega), h2]
              have m1 := ml_1 (y := tlF f) c1.1 c1.2
              rw [h2] at c2
              split
              · exact nu_in ty.1 ty.2 c1.1 c1.2 (by omega) (by omega)
              · exact nu_in ty.1 ty.2 c1.1 c1.2 (by omega) (by omega)
            rw [if_pos e]
            exact Or.inl rfl
        · rw [if_pos c1, if_pos (show 0 ≤ g 5 by omega)]
          exact Or.inr ⟨by omega, by omega, fun q => by have := ny q; omega⟩
      · rw [if_neg (show ¬ (g 1 = 0 ∨ g 1 = 4) by omega)]
        by_cases z2 : f 0 = 2
        · rw [if_pos (show g 1 = 2 by omega)]
          by_cases c1 : 1 ≤ g 4 ∧ g 4 ≤ 365 + lpI (g 2)
          · rw [if_neg (show ¬ ¬ (1 ≤ g 4 ∧ g 4 ≤ 365 + lpI (g 2)) from fun q => q c1), if_neg (show ¬ (0 : Int) ≤ -1 by decide)]
            have e : -365961662 ≤ ldD g ∧ ldD g ≤ 364522971 := by
              unfold ldD
              rw [if_neg (show ¬ (g 1 = 0 ∨ g 1 = 4) by omega), if_pos (show g 1 = 2 by omega), h2]
              rw [h2] at c1
              omega
            rw [if_pos e]
            exact Or.inl rfl
          · rw [if_pos c1, if_pos (show 0 ≤ g 5 by omega)]
            exact Or.inr ⟨by omega, by omega, fun q => by have := ny q; omega⟩
        · have y := hy (Or.inr (by omega))
          rw [if_neg (show ¬ g 1 = 2 by omega), if_neg (show ¬ g 1 = 3 by omega)]
          by_cases c1 : 1 ≤ g 4 ∧ g 4 ≤ wkI (g 2)
          · rw [if_neg (show ¬ ¬ (1 ≤ g 4 ∧ g 4 ≤ wkI (g 2)) from fun q => q c1)]
            by_cases c2 : g 1 = 1 ∧ ¬ (1 ≤ g 6 ∧ g 6 ≤ 7)
            · have c := hB (Or.inr (by omega))
              rw [if_pos c2, if_pos (show 0 ≤ g 7 by omega)]
              exact Or.inr ⟨by omega, by omega, fun q => by have := ny q; omega⟩
            · rw [if_neg c2, if_neg (show ¬ (0 : Int) ≤ -1 by decide)]
              by_cases e : -365961662 ≤ ldD g ∧ ldD g ≤ 364522971
              · rw [if_pos e]; exact Or.inl rfl
              · rw [if_neg e]; exact Or.inr ⟨by omega, by omega, fun q => by omega⟩
          · rw [if_pos c1, if_pos (show 0 ≤ g 5 by omega)]
            exact Or.inr ⟨by omega, by omega, fun q => by have := ny q; omega⟩
  have hH : ldH g = 0 ∨ ldH g = 1 := by unfold ldH; split; exact Or.inl rfl; split; exact Or.inl rfl; split; exact Or.inr rfl; exact Or.inl rfl
  have hB1 : ldB g = -1 → ldH g = 1 ∧ -365961662 ≤ ldD g ∧ ldD g ≤ 364522971 := by
    intro q
    have y3 : 0 ≤ g 3 ∨ ¬ (g 1 = 1 ∨ g 1 = 5) := by
      by_cases z : f 0 = 1 ∨ f 0 = 5
      · have := hy (Or.inr z); left; omega
      · right; omega
    unfold ldB at q
    unfold ldH
    rw [if_neg (by omega)] at q ⊢
    by_cases c : 0 ≤ ldP g
    · rw [if_pos c] at q; omega
    · rw [if_neg c] at q ⊢
      by_cases e : -365961662 ≤ ldD g ∧ ldD g ≤ 364522971
      · rw [if_pos e]; exact ⟨rfl, e⟩
      · exfalso
        rw [if_neg e] at q
        apply e
        have p0 : ldP g < 0 := by omega
        unfold ldP at p0
        unfold ldD
        rw [h2] at p0 ⊢
        rcases y3 with y3 | y3
        · omega
        · by_cases z0 : g 1 = 0 ∨ g 1 = 4
          · rw [if_pos z0] at p0 ⊢
            have a := hA (by omega)
            by_cases c1 : 1 ≤ g 4 ∧ g 4 ≤ 12
            · rw [if_neg (fun q => q c1)] at p0
              have m1 := ml_1 (y := tlF f) c1.1 c1.2
              by_cases c2 : g 1 = 0 ∧ ¬ (1 ≤ g 6 ∧ g 6 ≤ mlI (tlF f) (g 4))
              · rw [if_pos c2] at p0
                have c := hB (Or.inl (by omega))
                omega
              · split
                · exact nu_in ty.1 ty.2 c1.1 c1.2 (by omega) (by omega)
                · exact nu_in ty.1 ty.2 c1.1 c1.2 (by omega) (by omega)
            · rw [if_pos c1] at p0
              omega
          · rw [if_neg z0] at p0 ⊢
            by_cases z2 : g 1 = 2
            · rw [if_pos z2] at p0 ⊢
              have a := hA (by omega)
              by_cases c1 : 1 ≤ g 4 ∧ g 4 ≤ 365 + lpI (tlF f)
              · omega
              · rw [if_pos c1] at p0; omega
            · rw [if_neg z2] at p0 ⊢
              rw [if_pos (show g 1 = 3 by omega)]
              omega
  -- without -000000 class and reference find the same
  have same : ¬ (f 4 = 1 ∧ f 5 = 0) → dsB f = ldB g ∧ (ldB g = -1 → ldD g = dsD f) := by
    intro nz
    unfold dsB
    rw [if_neg nz]
    unfold ldB ldP ldD dsD
    rw [if_neg (show ¬ g 1 < 0 by omega), h2]
    by_cases z3 : f 0 = 3
    · have c := hC z3
      rw [if_neg (show ¬ (f 0 = 1 ∨ f 0 = 5) by omega), if_neg (show ¬ f 0 = 2 by omega), c.1, c.2, if_neg (by decide), if_neg (show ¬ (g 1 = 0 ∨ g 1 = 4) by omega), if_neg (show ¬ g 1 = 2 by omega), if_pos (show g 1 = 3 by omega), if_neg (show ¬ (0 : Int) ≤ -1 by decide), if_neg (show ¬ (g 1 = 0 ∨ g 1 = 4) by omega), if_neg (show ¬ g 1 = 2 by omega), if_pos (show g 1 = 3 by omega)]
      have m1 := ml_1 (y := tlF f) (m := 1) (by decide) (by decide)
      rw [if_pos ⟨by decide, m1⟩, if_pos (by omega), if_neg (show ¬ (f 0 = 1 ∨ f 0 = 5) by omega), if_neg (show ¬ f 0 = 2 by omega), nu_first]
      exact ⟨rfl, fun _ => rfl⟩
    · have a := hA z3
      by_cases z0 : f 0 = 0 ∨ f 0 = 4
      · rw [if_neg (show ¬ (f 0 = 1 ∨ f 0 = 5) by omega), if_neg (show ¬ f 0 = 2 by omega), if_pos (show g 1 = 0 ∨ g 1 = 4 by omega), if_pos (show g 1 = 0 ∨ g 1 = 4 by omega), if_neg (show ¬ (f 0 = 1 ∨ f 0 = 5) by omega), if_neg (show ¬ f 0 = 2 by omega), a.1]
        by_cases c1 : 1 ≤ f 7 ∧ f 7 ≤ 12
        · rw [if_neg (show ¬ (f 7 < 1 ∨ 12 < f 7) by omega), if_neg (show ¬ ¬ (1 ≤ f 7 ∧ f 7 ≤ 12) from fun q => q c1)]
          have m1 := ml_1 (y := tlF f) c1.1 c1.2
          have e6 : (if g 1 = 0 then g 6 else 1) = f 9 := by
            by_cases q : g 1 = 0
            · rw [if_pos q]; exact (hB (Or.inl (by omega))).1
            · rw [if_neg q]; exact (hD (Or.inl (by omega))).symm
          rw [e6]
          by_cases c2 : 1 ≤ f 9 ∧ f 9 ≤ mlI (tlF f) (f 7)
          · have e7 : ¬ (g 1 = 0 ∧ ¬ (1 ≤ g 6 ∧ g 6 ≤ mlI (tlF f) (f 7))) := fun q => q.2 (by have := hB (Or.inl (by omega)); rw [this.1]; exact c2)
            rw [if_pos c2, if_neg e7, if_neg (show ¬ (0 : Int) ≤ -1 by decide), if_pos (nu_in ty.1 ty.2 c1.1 c1.2 c2.1 c2.2)]
            exact ⟨rfl, fun _ => rfl⟩
          · have z : g 1 = 0 := by
              apply Decidable.byContradiction
              intro q
              have := hD (Or.inl (by omega))
              omega
            have hb := hB (Or.inl (by omega))
            rw [if_neg c2, if_pos (show g 1 = 0 ∧ ¬ (1 ≤ g 6 ∧ g 6 ≤ mlI (tlF f) (f 7)) from ⟨z, by rw [hb.1]; exact c2⟩), hb.2.1, if_pos (show 0 ≤ f 8 by omega)]
            exact ⟨rfl, fun q => by omega⟩
        · rw [if_pos (show f 7 < 1 ∨ 12 < f 7 by omega), if_pos c1, a.2.1, if_pos (show 0 ≤ f 6 by omega)]
          exact ⟨rfl, fun q => by omega⟩
      · by_cases z2 : f 0 = 2
        · rw [if_neg (show ¬ (f 0 = 1 ∨ f 0 = 5) by omega), if_pos z2, if_neg (show ¬ (g 1 = 0 ∨ g 1 = 4) by omega), if_pos (show g 1 = 2 by omega), if_neg (show ¬ (g 1 = 0 ∨ g 1 = 4) by omega), if_pos (show g 1 = 2 by omega), if_neg (show ¬ (f 0 = 1 ∨ f 0 = 5) by omega), if_pos z2, a.1]
          by_cases c1 : 1 ≤ f 7 ∧ f 7 ≤ 365 + lpI (tlF f)
          · rw [if_pos c1, if_neg (show ¬ ¬ (1 ≤ f 7 ∧ f 7 ≤ 365 + lpI (tlF f)) from fun q => q c1), if_neg (show ¬ (0 : Int) ≤ -1 by decide), if_pos (show -365961662 ≤ ysI (tlF f) + f 7 - 1 ∧ ysI (tlF f) + f 7 - 1 ≤ 364522971 by omega)]
            exact ⟨rfl, fun _ => rfl⟩
          · rw [if_neg c1, if_pos c1, a.2.1, if_pos (show 0 ≤ f 6 by omega)]
            exact ⟨rfl, fun q => by omega⟩
        · have y := hy (Or.inr (by omega))
          rw [if_pos (show f 0 = 1 ∨ f 0 = 5 by omega), if_neg (show ¬ (g 1 = 0 ∨ g 1 = 4) by omega), if_neg (show ¬ g 1 = 2 by omega), if_neg (show ¬ g 1 = 3 by omega), if_neg (show ¬ (g 1 = 0 ∨ g 1 = 4) by omega), if_neg (show ¬ g 1 = 2 by omega), if_neg (show ¬ g 1 = 3 by omega), if_pos (show f 0 = 1 ∨ f 0 = 5 by omega), a.1]
          have e6 : fwI (tlF f) + 7 * (f 7 - 1) + (if g 1 = 1 then g 6 - 1 else 0) = fwI (tlF f) + 7 * (f 7 - 1) + f 9 - 1 := by
            by_cases q : g 1 = 1
            · rw [if_pos q, (hB (Or.inr (by omega))).1]; omega
            · rw [if_neg q]; have := hD (Or.inr (by omega)); omega
          rw [e6]
          by_cases c1 : 1 ≤ f 7 ∧ f 7 ≤ wkI (tlF f)
          · rw [if_neg (show ¬ (f 7 < 1 ∨ wkI (tlF f) < f 7) by omega), if_neg (show ¬ ¬ (1 ≤ f 7 ∧ f 7 ≤ wkI (tlF f)) from fun q => q c1)]
            by_cases c2 : 1 ≤ f 9 ∧ f 9 ≤ 7
            · have e7 : ¬ (g 1 = 1 ∧ ¬ (1 ≤ g 6 ∧ g 6 ≤ 7)) := fun q => q.2 (by have := hB (Or.inr (by omega)); rw [this.1]; exact c2)
              rw [if_neg (show ¬ (f 9 < 1 ∨ 7 < f 9) by omega), if_neg e7, if_neg (show ¬ (0 : Int) ≤ -1 by decide)]
              by_cases c3 : -365961662 ≤ fwI (tlF f) + 7 * (f 7 - 1) + f 9 - 1 ∧ fwI (tlF f) + 7 * (f 7 - 1) + f 9 - 1 ≤ 364522971
              · rw [if_pos c3, if_pos c3]; exact ⟨rfl, fun _ => rfl⟩
              · rw [if_neg c3, if_neg c3]; exact ⟨y.1.symm, fun q => by omega⟩
            · have z : g 1 = 1 := by
                apply Decidable.byContradiction
                intro q
                have := hD (Or.inr (by omega))
                omega
              have hb := hB (Or.inr (by omega))
              rw [if_pos (show f 9 < 1 ∨ 7 < f 9 by omega), if_pos (show g 1 = 1 ∧ ¬ (1 ≤ g 6 ∧ g 6 ≤ 7) from ⟨z, by rw [hb.1]; exact c2⟩), hb.2.1, if_pos (show 0 ≤ f 8 by omega)]
              exact ⟨rfl, fun q => by omega⟩
          · rw [if_pos (show f 7 < 1 ∨ wkI (tlF f) < f 7 by omega), if_pos c1, a.2.1, if_pos (show 0 ≤ f 6 by omega)]
            exact ⟨rfl, fun q => by omega⟩
  by_cases nz : f 4 = 1 ∧ f 5 = 0
  · have y := hy (Or.inl nz)
    have e1 : dsB f = f 2 := by unfold dsB; rw [if_pos nz]
    have e2 : ngB f = f 2 := by unfold ngB; rw [if_pos nz]
    rw [e1, e2]
    refine ⟨Or.inr ⟨y.2.1, y.2.2.1⟩, Or.inr ⟨by omega, rfl⟩, fun b => ?_, fun q => by omega, by omega, hH⟩
    unfold omI mnI
    rcases key with k | k
    · rw [k]; simp
    · have := k.2.2 nz
      rw [if_pos (show 0 ≤ ldB g by omega), if_pos (show 0 ≤ f 2 by omega)]
      split <;> split <;> omega
  · obtain ⟨s1, s2⟩ := same nz
    have e2 : ngB f = -1 := by unfold ngB; rw [if_neg nz]
    rw [e2]
    refine ⟨by rw [s1]; omega, Or.inl rfl, fun b => by rw [omI_n, s1], fun q => ?_, by omega, hH⟩
    rw [s1] at q
    have := hB1 q
    exact ⟨this.1, s2 q, by rw [← s2 q]; exact this.2⟩
/-- the code's own steps, in one -/
theorem ldb_eq {f g : fN} {lo hi : Int} (h : DP f g lo hi) (hlo : 0 ≤ lo) : (∀ b, ldb g b = omI (ldB g) b) ∧ ldHx g = ldH g := by
  obtain ⟨⟨k1, k2, k3⟩, h2, h4, h5, hy, hA, hB, hC, hD⟩ := h
  have ty := tl_bd h4 h5
  have tin := y_in ty.1 ty.2
  have tlp := lpI_bd (tlF f)
  have om : ∀ {p b : Int}, 0 ≤ p → mnI p b = omI p b := fun h => (if_pos h).symm
  have e3 : ldP g = -1 → (-365961662 ≤ ldD g ∧ ldD g ≤ 364522971) ∨ 0 ≤ g 3 := by
    intro q
    by_cases z : f 0 = 1 ∨ f 0 = 5
    · have := hy (Or.inr z); right; omega
    · left
      unfold ldP at q
      unfold ldD
      rw [h2] at q ⊢
      by_cases z0 : g 1 = 0 ∨ g 1 = 4
      · rw [if_pos z0] at q ⊢
        have a := hA (by omega)
        by_cases c1 : 1 ≤ g 4 ∧ g 4 ≤ 12
        · rw [if_neg (fun r => r c1)] at q
          have m1 := ml_1 (y := tlF f) c1.1 c1.2
          by_cases c2 : g 1 = 0 ∧ ¬ (1 ≤ g 6 ∧ g 6 ≤ mlI (tlF f) (g 4))
          · rw [if_pos c2] at q
            have c := hB (Or.inl (by omega))
            omega
          · split
            · exact nu_in ty.1 ty.2 c1.1 c1.2 (by omega) (by omega)
            · exact nu_in ty.1 ty.2 c1.1 c1.2 (by omega) (by omega)
        · rw [if_pos c1] at q
          omega
      · rw [if_neg z0] at q ⊢
        by_cases z2 : g 1 = 2
        · rw [if_pos z2] at q ⊢
          have a := hA (by omega)
          by_cases c1 : 1 ≤ g 4 ∧ g 4 ≤ 365 + lpI (tlF f)
          · omega
          · rw [if_pos c1] at q; omega
        · rw [if_neg z2] at q ⊢
          rw [if_pos (show g 1 = 3 by omega)]
          omega
  have fin : ldP g = -1 → (∀ b, lde g b = omI (ldB g) b) ∧ ldh g = ldH g := by
    intro q
    have c := e3 q
    unfold lde ldh ldB ldH
    rw [if_neg (show ¬ g 1 < 0 by omega), if_neg (show ¬ g 1 < 0 by omega), q, if_neg (show ¬ (0 : Int) ≤ -1 by decide), if_neg (show ¬ (0 : Int) ≤ -1 by decide)]
    by_cases d : -365961662 ≤ ldD g ∧ ldD g ≤ 364522971
    · refine ⟨fun b => ?_, rfl⟩
      rw [if_pos d, if_pos d, omI_n]
    · refine ⟨fun b => ?_, rfl⟩
      rw [if_neg d, if_neg d]
      exact om (by rcases c with c | c; exact absurd c d; exact c)
  have bad : ∀ p, 0 ≤ p → ldP g = p → (∀ b, mnI p b = omI (ldB g) b) ∧ 0 = ldH g := by
    intro p hp q
    unfold ldB ldH
    rw [if_neg (show ¬ g 1 < 0 by omega), if_neg (show ¬ g 1 < 0 by omega), q, if_pos hp, if_pos hp]
    exact ⟨fun b => om hp, rfl⟩
  unfold ldb ldHx
  rw [if_neg (show ¬ g 1 < 0 by omega)]
  simp only [if_neg (show ¬ g 1 < 0 by omega)]
  by_cases z0 : g 1 = 0 ∨ g 1 = 4
  · simp only [if_pos z0]
    have a := hA (by omega)
    by_cases c1 : 1 ≤ g 4 ∧ g 4 ≤ 12
    · have c1' : ¬ ¬ (1 ≤ g 4 ∧ g 4 ≤ 12) := fun r => r c1
      simp only [if_neg c1']
      by_cases c2 : g 1 = 0 ∧ ¬ (1 ≤ g 6 ∧ g 6 ≤ mlI (g 2) (g 4))
      · simp only [if_pos c2]
        have c := hB (Or.inl (by omega))
        exact bad (g 7) (by omega) (by unfold ldP; rw [if_pos z0, if_neg c1', if_pos c2])
      · simp only [if_neg c2]
        exact fin (by unfold ldP; rw [if_pos z0, if_neg c1', if_neg c2])
    · simp only [if_pos c1]
      exact bad (g 5) (by omega) (by unfold ldP; rw [if_pos z0, if_pos c1])
  · simp only [if_neg z0]
    by_cases z2 : g 1 = 2
    · simp only [if_pos z2]
      have a := hA (by omega)
      by_cases c1 : 1 ≤ g 4 ∧ g 4 ≤ 365 + lpI (g 2)
      · have c1' : ¬ ¬ (1 ≤ g 4 ∧ g 4 ≤ 365 + lpI (g 2)) := fun r => r c1
        simp only [if_neg c1']
        exact fin (by unfold ldP; rw [if_neg z0, if_pos z2, if_neg c1'])
      · simp only [if_pos c1]
        exact bad (g 5) (by omega) (by unfold ldP; rw [if_neg z0, if_pos z2, if_pos c1])
    · simp only [if_neg z2]
      by_cases z3 : g 1 = 3
      · simp only [if_pos z3]
        exact fin (by unfold ldP; rw [if_neg z0, if_neg z2, if_pos z3])
      · simp only [if_neg z3]
        have a := hA (by omega)
        by_cases c1 : 1 ≤ g 4 ∧ g 4 ≤ wkI (g 2)
        · have c1' : ¬ ¬ (1 ≤ g 4 ∧ g 4 ≤ wkI (g 2)) := fun r => r c1
          simp only [if_neg c1']
          by_cases c2 : g 1 = 1 ∧ ¬ (1 ≤ g 6 ∧ g 6 ≤ 7)
          · simp only [if_pos c2]
            have c := hB (Or.inr (by omega))
            exact bad (g 7) (by omega) (by unfold ldP; rw [if_neg z0, if_neg z2, if_neg z3, if_neg c1', if_pos c2])
          · simp only [if_neg c2]
            exact fin (by unfold ldP; rw [if_neg z0, if_neg z2, if_neg z3, if_neg c1', if_neg c2])
        · simp only [if_pos c1]
          exact bad (g 5) (by omega) (by unfold ldP; rw [if_neg z0, if_neg z2, if_neg z3, if_pos c1])
/-- five places: the first of them -/
theorem mn5 {c1 c2 c3 c4 c5 : Prop} [Decidable c1] [Decidable c2] [Decidable c3] [Decidable c4] [Decidable c5] {p1 p2 p3 p4 p5 b : Int}
    (h1 : c1 → 0 ≤ p1 ∧ (c2 → p1 ≤ p2) ∧ (c5 → p1 ≤ p5) ∧ (c3 → p1 ≤ p3) ∧ (c4 → p1 ≤ p4)) (h2 : c2 → 0 ≤ p2 ∧ (c5 → p2 ≤ p5) ∧ (c3 → p2 ≤ p3) ∧ (c4 → p2 ≤ p4)) (h5 : c5 → 0 ≤ p5 ∧ (c3 → p5 ≤ p3) ∧ (c4 → p5 ≤ p4)) (h3 : c3 → 0 ≤ p3 ∧ (c4 → p3 ≤ p4)) (h4 : c4 → 0 ≤ p4) :
    (if c5 then mnI p5 (if c4 then mnI p4 (if c3 then mnI p3 (if c2 then mnI p2 (if c1 then mnI p1 b else b) else if c1 then mnI p1 b else b) else if c2 then mnI p2 (if c1 then mnI p1 b else b) else if c1 then mnI p1 b else b) else if c3 then mnI p3 (if c2 then mnI p2 (if c1 then mnI p1 b else b) else if c1 then mnI p1 b else b) else if c2 then mnI p2 (if c1 then mnI p1 b else b) else if c1 then mnI p1 b else b) else if c4 then mnI p4 (if c3 then mnI p3 (if c2 then mnI p2 (if c1 then mnI p1 b else b) else if c1 then mnI p1 b else b) else if c2 then mnI p2 (if c1 then mnI p1 b else b) else if c1 then mnI p1 b else b) else if c3 then mnI p3 (if c2 then mnI p2 (if c1 then mnI p1 b else b) else if c1 then mnI p1 b else b) else if c2 then mnI p2 (if c1 then mnI p1 b else b) else if c1 then mnI p1 b else b)
    = omI (if c1 then p1 else if c2 then p2 else if c5 then p5 else if c3 then p3 else if c4 then p4 else -1) b := by
  have mm : ∀ {p q : Int}, p ≤ q → mnI q (mnI p b) = mnI p b := by
    intro p q h
    unfold mnI
    split <;> split <;> omega
  have oi : ∀ {p : Int}, 0 ≤ p → omI p b = mnI p b := fun h => if_pos h
  by_cases a1 : c1
  · have k := h1 a1
    simp only [if_pos a1]
    rw [oi k.1]
    by_cases a2 : c2
    · simp only [if_pos a2, mm (k.2.1 a2)]
      by_cases a3 : c3 <;> by_cases a4 : c4 <;> by_cases a5 : c5 <;> simp only [a3, a4, a5, if_true, if_false] <;> (try rw [mm (k.2.2.2.1 a3)]) <;> (try rw [mm (k.2.2.2.2 a4)]) <;> (try rw [mm (k.2.2.1 a5)])
    · simp only [if_neg a2]
      by_cases a3 : c3 <;> by_cases a4 : c4 <;> by_cases a5 : c5 <;> simp only [a3, a4, a5, if_true, if_false] <;> (try rw [mm (k.2.2.2.1 a3)]) <;> (try rw [mm (k.2.2.2.2 a4)]) <;> (try rw [mm (k.2.2.1 a5)])
  · simp only [if_neg a1]
    by_cases a2 : c2
    · have k := h2 a2
      simp only [if_pos a2]
      rw [oi k.1]
      by_cases a3 : c3 <;> by_cases a4 : c4 <;> by_cases a5 : c5 <;> simp only [a3, a4, a5, if_true, if_false] <;> (try rw [mm (k.2.2.1 a3)]) <;> (try rw [mm (k.2.2.2 a4)]) <;> (try rw [mm (k.2.1 a5)])
    · simp only [if_neg a2]
      by_cases a5 : c5
      · have k := h5 a5
        simp only [if_pos a5]
        rw [oi k.1]
        have mr : ∀ {q : Int}, p5 ≤ q → mnI p5 (mnI q b) = mnI p5 b := by
          intro q h
          unfold mnI
          split <;> split <;> omega
        have mr2 : ∀ {q r : Int}, p5 ≤ q → p5 ≤ r → mnI p5 (mnI q (mnI r b)) = mnI p5 b := by
          intro q r h h'
          unfold mnI
          split <;> split <;> split <;> omega
        by_cases a3 : c3 <;> by_cases a4 : c4 <;> simp only [a3, a4, if_true, if_false]
        · exact mr2 (k.2.2 a4) (k.2.1 a3)
        · exact mr (k.2.1 a3)
        · exact mr (k.2.2 a4)
      · simp only [if_neg a5]
        by_cases a3 : c3
        · have k := h3 a3
          simp only [if_pos a3]
          rw [oi k.1]
          by_cases a4 : c4 <;> simp only [a4, if_true, if_false]
          exact mm (k.2 a4)
        · simp only [if_neg a3]
          by_cases a4 : c4 <;> simp only [a4, if_true, if_false]
          · rw [oi (h4 a4)]
          · exact (omI_n b).symm
/-- a time -/
theorem lt_any {f g : fN} {lo hi hd dy : Int} (h : TP f g lo hi) (hlo : 0 ≤ lo) : ∃ K, (K = -1 ∨ (lo ≤ K ∧ K ≤ hi)) ∧ (∀ b, ltB L g hd dy b = omI K b) ∧ K = (if ¬ (g 9 < 24 ∨ ltLate g hd dy) then f 0 else if 59 < f 3 then f 2 else if 60 < f 5 ∨ (f 5 = 60 ∧ ¬ ltSix L g hd dy) then f 4 else if g 17 = 2 ∧ 23 < f 11 then f 10 else if g 17 = 2 ∧ 59 < f 13 then f 12 else -1) := by
  obtain ⟨m, ⟨a1, a2, a3, a4, a5, a6, a7, a8, a9, b1, b2, b3⟩, hm, hz⟩ := h
  have z : g 17 = 2 → g 18 = f 11 ∧ g 20 = f 13 ∧ (f 11 ≠ 0 → g 19 = f 10 ∧ m ≤ f 10 ∧ f 10 ≤ hi) ∧ (f 13 ≠ 0 → g 21 = f 12 ∧ m ≤ f 12 ∧ (f 11 ≠ 0 → f 10 ≤ f 12) ∧ f 12 ≤ hi) := by
    intro q
    rcases hz with hz | hz
    · exact ⟨hz.2.1, hz.2.2.1, hz.2.2.2.1, hz.2.2.2.2.1⟩
    · exact absurd q hz.1
  refine ⟨_, ?_, fun b => ?_, rfl⟩
  · split
    · right; omega
    · split
      · have := a6 (by omega); right; omega
      · split
        · have := a8 (by omega); right; omega
        · split
          · rename_i q; have := (z q.1).2.2.1 (by omega); right; omega
          · split
            · rename_i q; have := (z q.1).2.2.2 (by omega); right; omega
            · exact Or.inl rfl
  · have e := mn5 (c1 := ¬ (g 9 < 24 ∨ ltLate g hd dy)) (c2 := 59 < f 3) (c3 := g 17 = 2 ∧ 23 < f 11) (c4 := g 17 = 2 ∧ 59 < f 13) (c5 := 60 < f 5 ∨ (f 5 = 60 ∧ ¬ ltSix L g hd dy)) (p1 := f 0) (p2 := f 2) (p3 := f 10) (p4 := f 12) (p5 := f 4) (b := b)
      (fun _ => ⟨by omega, fun q => (a6 (by omega)).2.1, fun q => (a8 (by omega)).2.1, fun q => by have := (z q.1).2.2.1 (by omega); omega, fun q => by have := (z q.1).2.2.2 (by omega); omega⟩)
      (fun q2 => ⟨by have := a6 (by omega); omega, fun q => (a8 (by omega)).2.2.1 (by omega), fun q => by have := (z q.1).2.2.1 (by omega); have := a6 (by omega); omega, fun q => by have := (z q.1).2.2.2 (by omega); have := a6 (by omega); omega⟩)
      (fun q5 => ⟨by have := a8 (by omega); omega, fun q => by have := (z q.1).2.2.1 (by omega); have := a8 (by omega); omega, fun q => by have := (z q.1).2.2.2 (by omega); have := a8 (by omega); omega⟩)
      (fun q3 => ⟨by have := (z q3.1).2.2.1 (by omega); omega, fun q => ((z q.1).2.2.2 (by omega)).2.2.1 (by omega)⟩)
      (fun q4 => by have := (z q4.1).2.2.2 (by omega); omega)
    rw [← e]
    have e1 : ∀ b, lt1 g hd dy b = if ¬ (g 9 < 24 ∨ ltLate g hd dy) then mnI (f 0) b else b := fun b => by
      unfold lt1
      rw [a3]
      by_cases q : g 9 < 24 ∨ ltLate g hd dy
      · rw [if_pos q, if_neg (fun r => r q)]
      · rw [if_neg q, if_pos q]
    have e2 : ∀ b, lt2 g b = if 59 < f 3 then mnI (f 2) b else b := fun b => by
      unfold lt2
      rw [a5]
      by_cases q : 59 < f 3
      · rw [if_pos q, if_pos q, (a6 (by omega)).1]
      · rw [if_neg q, if_neg q]
    have e3 : ∀ b, lt3 g b = if g 17 = 2 ∧ 23 < f 11 then mnI (f 10) b else b := fun b => by
      unfold lt3
      by_cases q : g 17 = 2
      · rw [(z q).1]
        by_cases r : 23 < f 11
        · rw [if_pos ⟨q, r⟩, if_pos ⟨q, r⟩, ((z q).2.2.1 (by omega)).1]
        · rw [if_neg (fun t => r t.2), if_neg (fun t => r t.2)]
      · rw [if_neg (fun t => q t.1), if_neg (fun t => q t.1)]
    have e4 : ∀ b, lt4 g b = if g 17 = 2 ∧ 59 < f 13 then mnI (f 12) b else b := fun b => by
      unfold lt4
      by_cases q : g 17 = 2
      · rw [(z q).2.1]
        by_cases r : 59 < f 13
        · rw [if_pos ⟨q, r⟩, if_pos ⟨q, r⟩, ((z q).2.2.2 (by omega)).1]
        · rw [if_neg (fun t => r t.2), if_neg (fun t => r t.2)]
      · rw [if_neg (fun t => q t.1), if_neg (fun t => q t.1)]
    have e5 : ∀ b, lt5 L g hd dy b = if 60 < f 5 ∨ (f 5 = 60 ∧ ¬ ltSix L g hd dy) then mnI (f 4) b else b := fun b => by
      unfold lt5
      rw [a7]
      by_cases q : 60 < f 5 ∨ (f 5 = 60 ∧ ¬ ltSix L g hd dy)
      · rw [if_pos q, if_pos q, (a8 (by omega)).1]
      · rw [if_neg q, if_neg q]
    unfold ltB
    rw [if_neg (by omega), e5, e4, e3, e2, e1]
theorem lt_same {f g : fN} {lo hi hd dy day : Int} (hL : ∀ d ∈ L, -365961662 ≤ d ∧ d ≤ 364522971) (h : TP f g lo hi) (hlo : 0 ≤ lo) (hday : (g 1 < 0 ∧ day = NONEI ∧ hd = 0) ∨ (0 ≤ g 1 ∧ hd = 1 ∧ dy = day ∧ -365961662 ≤ day ∧ day ≤ 364522971)) : (tsB L day f = -1 ∨ (lo ≤ tsB L day f ∧ tsB L day f ≤ hi)) ∧ ∀ b, ltB L g hd dy b = omI (tsB L day f) b := by
  obtain ⟨K, k1, k2, k3⟩ := lt_any (L := L) (hd := hd) (dy := dy) h hlo
  have e : tsB L day f = K := by
    rw [k3]
    obtain ⟨m, ⟨a1, a2, a3, a4, a5, a6, a7, a8, a9, b1, b2, b3⟩, hm, hz⟩ := h
    have c1 : (24 < f 1 ∨ (f 1 = 24 ∧ (¬ (f 3 = 0 ∧ f 5 = 0 ∧ f 6 = 0) ∨ day = 364522971))) ↔ ¬ (g 9 < 24 ∨ ltLate g hd dy) := by
      unfold ltLate
      rw [a2, a5, a7, a9]
      have nn : NONEI = -9223372036854775808 := rfl
      rcases hday with d | d
      · constructor
        · intro q r
          rcases r with r | r
          · omega
          · omega
        · intro q
          apply Decidable.byContradiction
          intro r
          apply q
          omega
      · constructor
        · intro q r
          rcases r with r | r
          · omega
          · omega
        · intro q
          apply Decidable.byContradiction
          intro r
          apply q
          omega
    unfold tsB
    by_cases q1 : 24 < f 1 ∨ (f 1 = 24 ∧ (¬ (f 3 = 0 ∧ f 5 = 0 ∧ f 6 = 0) ∨ day = 364522971))
    · rw [if_pos q1, if_pos (c1.mp q1)]
    · rw [if_neg q1, if_neg (fun r => q1 (c1.mpr r))]
      by_cases q2 : 59 < f 3
      · rw [if_pos q2, if_pos q2]
      · rw [if_neg q2, if_neg q2]
        have zo : (f 11 ≤ 23 ∧ f 13 ≤ 59 ↔ (g 17 ≠ 2 ∨ (g 18 < 24 ∧ g 20 < 60))) ∧ otF f = oqF g ∧ ((g 17 = 2 ∧ 23 < f 11) ↔ 23 < f 11) ∧ ((g 17 = 2 ∧ 59 < f 13) ↔ 59 < f 13) := by
          unfold otF oqF
          rcases hz with z | z
          · obtain ⟨z1, z2, z3, z4, z5, z6, z7, z8⟩ := z
            refine ⟨by omega, ?_, by omega, by omega⟩
            rw [if_pos z1, z2, z3]
            rcases z6 with z6 | z6
            · rw [if_pos z6.1, if_pos z6.2]; omega
            · rw [if_neg (by omega), if_neg (by omega)]; omega
          · obtain ⟨z1, z2, z3, z4⟩ := z
            refine ⟨by omega, ?_, by omega, by omega⟩
            rw [if_neg z1, z2, z3, if_neg (by omega)]
            all_goals rfl
        have c5 : lsF9 L day f < f 5 ↔ (60 < f 5 ∨ (f 5 = 60 ∧ ¬ ltSix L g hd dy)) := by
          have bd : 59 ≤ lsF9 L day f ∧ lsF9 L day f ≤ 60 := by
            unfold lsF9
            split
            · rcases lsR_01 L (day * 1440 + f 1 * 60 + f 3 - otF f) with e | e <;> omega
            · omega
          by_cases s60 : f 5 = 60
          · have h24 : f 1 < 24 := by
              apply Decidable.byContradiction
              intro r
              apply q1
              omega
            have key : lsF9 L day f = 60 ↔ ltSix L g hd dy := by
              unfold lsF9 ltSix
              rw [a2, a5, ← zo.2.1]
              rcases hday with d | d
              · rw [if_neg (fun r => r.2 d.2.1)]
                constructor
                · intro r; cases r
                · intro r; omega
              · have nn : day ≠ NONEI := by unfold NONEI; omega
                rw [d.2.2.1, show day * 1440 + 60 * f 1 + f 3 - otF f = day * 1440 + f 1 * 60 + f 3 - otF f by omega]
                constructor
                · intro r
                  split at r
                  · rename_i t
                    exact ⟨⟨d.2.1, zo.1.mp t.1, h24, by omega⟩, lsR_in hL r, r⟩
                  · cases r
                · intro r
                  rw [if_pos ⟨zo.1.mpr r.1.2.1, nn⟩]
                  exact r.2.2
            constructor
            · intro r
              exact Or.inr ⟨s60, fun t => by have := key.mpr t; omega⟩
            · intro r
              rcases r with r | r
              · omega
              · have : lsF9 L day f ≠ 60 := fun t => r.2 (key.mp t)
                omega
          · constructor
            · intro r; left; omega
            · intro r
              rcases r with r | r
              · omega
              · exact absurd r.1 s60
        by_cases q5 : lsF9 L day f < f 5
        · rw [if_pos q5, if_pos (c5.mp q5)]
        · rw [if_neg q5, if_neg (fun r => q5 (c5.mpr r))]
          by_cases q3 : 23 < f 11
          · rw [if_pos q3, if_pos (zo.2.2.1.mpr q3)]
          · rw [if_neg q3, if_neg (fun r : g 17 = 2 ∧ 23 < f 11 => q3 r.2)]
            by_cases q4 : 59 < f 13
            · rw [if_pos q4, if_pos (zo.2.2.2.mpr q4)]
            · rw [if_neg q4, if_neg (fun r : g 17 = 2 ∧ 59 < f 13 => q4 r.2)]
  rw [e]
  exact ⟨k1, k2⟩
end LOOK

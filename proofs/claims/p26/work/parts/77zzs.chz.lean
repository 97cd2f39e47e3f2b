theorem zbF_some {L : List Int} {e : zE} {r : rU} {t x : Int} (h : cgF L r t e.1 e.2 = some x) : zbF L e r t = x := by simp only [zbF, h]
theorem zbF_none0 {L : List Int} {e : zE} {r : rU} {t : Int} (h : cgF L r t e.1 e.2 = none) (h0 : r.1 ≤ 0) : zbF L e r t = NONEI := by simp only [zbF, h, if_pos h0]
theorem zbF_none {L : List Int} {e : zE} {r : rU} {t : Int} (h : cgF L r t e.1 e.2 = none) (h0 : ¬ r.1 ≤ 0) : zbF L e r t = znF L (cbF r (mtI L (stF9 e.2 t))) := by simp only [zbF, h, if_neg h0]
theorem stF9_none {C : List (Int × Int)} {t : Int} (h : C.length = 0) : stF9 C t = t := by
  have e : C[C.length - 1]? = none := List.getElem?_eq_none (by omega)
  simp only [stF9, e]
theorem stF9_some {C : List (Int × Int)} {t : Int} {c : Int × Int} (h : C[C.length - 1]? = some c) : stF9 C t = if t ≤ c.1 then c.1 else t := by simp only [stF9, h]
theorem cgF_mem {L : List Int} {r : rU} {t x : Int} : ∀ {C : List (Int × Int)} {b : Int}, cgF L r t b C = some x → ∃ c ∈ C, c.1 = x := by
  intro C
  induction C with
  | nil => intro b h; cases h
  | cons c q ih =>
    intro b h
    have h : (if t < c.1 ∧ bvF L r c q.length ≠ b then some c.1 else cgF L r t (bvF L r c q.length) q) = some x := h
    split at h
    · exact ⟨c, List.mem_cons_self, Option.some.inj h⟩
    · obtain ⟨d, h1, h2⟩ := ih h
      exact ⟨d, List.mem_cons_of_mem _ h1, h2⟩
theorem znF_bd {L : List Int} {m : Int} (hL : L.length ≤ 40) : znF L m = NONEI ∨ (-31800000000000 ≤ znF L m ∧ znF L m ≤ 31800000000000) := by
  unfold znF
  by_cases g : m = NONEI ∨ ¬ mIn m
  · rw [if_pos g]; exact Or.inl rfl
  · rw [if_neg g]
    have h1 : mIn m := Decidable.byContradiction (fun q => g (Or.inr q))
    have h2 := h1.1
    have h3 := h1.2
    have b := lsI_b hL (m / 1440)
    refine Or.inr ?_
    unfold stI
    omega
theorem zbF_bd {L : List Int} {e : zE} {r : rU} {t : Int} (hL : L.length ≤ 40) (hB : ∀ c ∈ e.2, oOK c.2 ∧ -31700000000000 ≤ c.1 ∧ c.1 ≤ 31700000000000) : zbF L e r t = NONEI ∨ (-31800000000000 ≤ zbF L e r t ∧ zbF L e r t ≤ 31800000000000) := by
  cases h : cgF L r t e.1 e.2 with
  | some x =>
    rw [zbF_some h]
    obtain ⟨c, h1, h2⟩ := cgF_mem h
    have h3 := hB c h1
    omega
  | none =>
    by_cases h0 : r.1 ≤ 0
    · rw [zbF_none0 h h0]; exact Or.inl rfl
    · rw [zbF_none h h0]; exact znF_bd hL

theorem rd_lo {L : List Int} {t M M0 : Int} (h : rdM L t M) (h0 : stI L M0 ≤ t) : M0 ≤ M := by
  apply Decidable.byContradiction
  intro q
  have h3 := stI_mono L (M + 1) (M0 - (M + 1)).toNat
  rw [show M + 1 + ((M0 - (M + 1)).toNat : Int) = M0 by omega] at h3
  have := h.2
  omega
theorem rd_hi {L : List Int} {t M M0 : Int} (h : rdM L t M) (h0 : t < stI L M0) : M < M0 := by
  apply Decidable.byContradiction
  intro q
  have h3 := stI_mono L M0 (M - M0).toNat
  rw [show M0 + ((M - M0).toNat : Int) = M by omega] at h3
  have := h.1
  omega
theorem rd_mIn {L : List Int} {t M : Int} (h : rdM L t M) (ht : tOK t L) : -526984793280 ≤ M ∧ M ≤ 524913079679 := by
  obtain ⟨h1, h2⟩ := ht
  have e1 : stI L (-526984793280) = 86400 * (-365961662) + lsI L (-365961662) := by
    unfold stI
    rw [show (-526984793280 : Int) / 1440 = -365961662 by decide]
    omega
  have e2 : stI L 524913079680 = 86400 * 364522972 + lsI L 364522972 := by
    unfold stI
    rw [show (524913079680 : Int) / 1440 = 364522972 by decide]
    omega
  have a := rd_lo h (M0 := -526984793280) (by rw [e1]; exact h1)
  have b := rd_hi h (M0 := 524913079680) (by rw [e2]; exact h2)
  omega

/-! instants: the numbers -/
theorem lsI_tb {L : List Int} {i : Nat} (h : L.length ≤ 40) (d : Int) : -40 ≤ lsI (L.take i) d ∧ lsI (L.take i) d ≤ 40 := by
  have h1 := lsI_bd (L.take i) d
  have h2 : (L.take i).length ≤ L.length := by rw [List.length_take]; exact Nat.min_le_right _ _
  omega
theorem lsI_b {L : List Int} (h : L.length ≤ 40) (d : Int) : -40 ≤ lsI L d ∧ lsI L d ≤ 40 := by
  have h1 := lsI_bd L d
  omega
theorem lsI_full {L : List Int} {i : Nat} (h : i = L.length) (d : Int) : lsI (L.take i) d = lsI L d := by
  rw [h, List.take_length]
theorem lcI_up (x d : Int) : lcI x d ≤ lcI x (d + 1) := by
  unfold lcI
  split <;> split <;> (try split) <;> (try split) <;> omega
theorem lsI_up (L : List Int) (d : Int) : lsI L d ≤ lsI L (d + 1) := by
  induction L with
  | nil => simp [lsI]
  | cons x t ih => have h := lcI_up x d; rw [lsI_cons, lsI_cons]; omega
/-- where minute M begins -/
def stI (L : List Int) (M : Int) : Int := 60 * M + lsI L (M / 1440)
theorem stI_up (L : List Int) (M : Int) : stI L M + 60 ≤ stI L (M + 1) := by
  unfold stI
  have h := lsI_up L (M / 1440)
  have e : (M + 1) / 1440 = M / 1440 ∨ (M + 1) / 1440 = M / 1440 + 1 := by omega
  rcases e with g | g <;> rw [g] <;> omega
theorem stI_mono (L : List Int) (M : Int) (n : Nat) : stI L M + 60 * n ≤ stI L (M + n) := by
  induction n with
  | zero => simp
  | succ n ih =>
    have h := stI_up L (M + n)
    rw [show M + ((n + 1 : Nat) : Int) = M + n + 1 by omega]
    omega
def rdM (L : List Int) (t M : Int) : Prop := stI L M ≤ t ∧ t < stI L (M + 1)
theorem rdM_one {L : List Int} {t M M' : Int} (h : rdM L t M) (h' : rdM L t M') : M = M' := by
  obtain ⟨h1, h2⟩ := h
  obtain ⟨g1, g2⟩ := h'
  rcases Int.lt_or_le M M' with q | q
  · have h3 := stI_mono L (M + 1) (M' - (M + 1)).toNat
    rw [show M + 1 + ((M' - (M + 1)).toNat : Int) = M' by omega] at h3
    omega
  · rcases Int.lt_or_le M' M with q2 | q2
    · have h3 := stI_mono L (M' + 1) (M - (M' + 1)).toNat
      rw [show M' + 1 + ((M - (M' + 1)).toNat : Int) = M by omega] at h3
      omega
    · omega
/-- a day that has t, and the minute in it -/
theorem rdM_of {L : List Int} {t d j : Int} (h1 : 86400 * d + lsI L d ≤ t) (h2 : t < 86400 * (d + 1) + lsI L (d + 1)) (hj : ((t - (86400 * d + lsI L d)) / 60 ≤ 1439 ∧ j = (t - (86400 * d + lsI L d)) / 60) ∨ (1439 < (t - (86400 * d + lsI L d)) / 60 ∧ j = 1439)) : rdM L t (d * 1440 + j) := by
  have e1 : (d * 1440 + j) / 1440 = d := by omega
  have h3 := lsI_up L d
  unfold rdM stI
  rw [e1]
  rcases Int.lt_or_le j 1439 with g | g
  · have e2 : (d * 1440 + j + 1) / 1440 = d := by omega
    rw [e2]
    omega
  · have e3 : j = 1439 := by omega
    have e2 : (d * 1440 + j + 1) / 1440 = d + 1 := by omega
    rw [e2]
    omega
def mOK (m : Int) : Prop := -526984793280 ≤ m ∧ m ≤ 524913079679
def iV (m s : Int) (L : List Int) : Prop := mOK m ∧ 0 ≤ s ∧ (s ≤ 59 ∨ (s = 60 ∧ m % 1440 = 1439 ∧ m / 1440 ∈ L))
def spI (m s : Int) (L : List Int) (zc k r : Int) (L' : List Int) (zc' : Int) : Prop := L' = L ∧ zc' = zc ∧ ((k = 1 ∧ ¬ iV m s L) ∨ (k = 0 ∧ iV m s L ∧ r = stI L m + s))
theorem spI_det (m s : Int) (L : List Int) (zc : Int) : spD (spI m s L zc) := by
  intro k r L1 z k' r' L2 z' h h'
  obtain ⟨h1, h2, h3⟩ := h
  obtain ⟨g1, g2, g3⟩ := h'
  rcases h3 with ⟨a1, a2⟩ | ⟨a1, a2, a3⟩ <;> rcases g3 with ⟨b1, b2⟩ | ⟨b1, b2, b3⟩
  · exact ⟨by omega, by rw [h1, g1], by omega, by omega⟩
  · exact absurd b2 a2
  · exact absurd a2 b2
  · exact ⟨by omega, by rw [h1, g1], by omega, by omega⟩
theorem spI_no2 {m s : Int} {L : List Int} {zc r : Int} {L' : List Int} {zc' : Int} (h : spI m s L zc 2 r L' zc') : False := by
  obtain ⟨-, -, h | h⟩ := h <;> omega
def tOK (t : Int) (L : List Int) : Prop := 86400 * (-365961662) + lsI L (-365961662) ≤ t ∧ t < 86400 * 364522972 + lsI L 364522972
def spR (t w : Int) (L : List Int) (zc k r : Int) (L' : List Int) (zc' : Int) : Prop := L' = L ∧ zc' = zc ∧ ((k = 1 ∧ ¬ (tOK t L ∧ 0 ≤ w ∧ w ≤ 1)) ∨ (k = 0 ∧ tOK t L ∧ 0 ≤ w ∧ w ≤ 1 ∧ ∃ M, rdM L t M ∧ ((w = 0 ∧ r = M) ∨ (w = 1 ∧ r = t - stI L M))))
theorem spR_det (t w : Int) (L : List Int) (zc : Int) : spD (spR t w L zc) := by
  intro k r L1 z k' r' L2 z' h h'
  obtain ⟨h1, h2, h3⟩ := h
  obtain ⟨g1, g2, g3⟩ := h'
  rcases h3 with ⟨a1, a2⟩ | ⟨a1, a2, a3, a4, M, a5, a6⟩ <;> rcases g3 with ⟨b1, b2⟩ | ⟨b1, b2, b3, b4, M', b5, b6⟩
  · exact ⟨by omega, by rw [h1, g1], by omega, by omega⟩
  · exact absurd ⟨b2, b3, b4⟩ a2
  · exact absurd ⟨a2, a3, a4⟩ b2
  · cases rdM_one a5 b5
    exact ⟨by omega, by rw [h1, g1], by omega, by omega⟩
theorem spR_no2 {t w : Int} {L : List Int} {zc r : Int} {L' : List Int} {zc' : Int} (h : spR t w L zc 2 r L' zc') : False := by
  obtain ⟨-, -, ⟨h, -⟩ | ⟨h, -⟩⟩ := h <;> omega
theorem rdM_sec {L : List Int} {t M : Int} (hL : L.length ≤ 40) (h : rdM L t M) : 0 ≤ t - stI L M ∧ t - stI L M ≤ 200 := by
  obtain ⟨h1, h2⟩ := h
  have b1 := lsI_b hL (M / 1440)
  have b2 := lsI_b hL ((M + 1) / 1440)
  unfold stI at *
  omega

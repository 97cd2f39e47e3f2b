/-! writeInstant -/
def wiV (t na o dg : Int) (L : List Int) : Prop := tOK t L ∧ (0 ≤ na ∧ na ≤ 999999999 ∧ -1439 ≤ o ∧ o ≤ 1439 ∧ 0 ≤ dg ∧ dg ≤ 9) ∧ ∃ M, rdM L t M ∧ mOK (M + o)
def wiL (m y mo d se na : Int) (dg : Nat) (o : Int) : List Int := yrL y ++ mdL mo d 1 ++ tmL (m % 1440) se ++ ptL na dg ++ ofL o
theorem wiL_ok (m y mo d se na : Int) {dg : Nat} (o : Int) (h : dg ≤ 9) : asc (wiL m y mo d se na dg o) ∧ (wiL m y mo d se na dg o).length ≤ 40 := by
  have l1 := yrL_len y
  have l2 := dsL_len 1
  have l3 := tmL_len (m % 1440) se
  have l4 := ptL_len na dg
  have l5 := ofL_len o
  unfold wiL mdL
  exact ⟨asc_app (asc_app (asc_app (asc_app (asc_yrL _) (asc_app (asc_app (asc_app (asc_dsL _) (asc_dgL _ _)) (asc_dsL _)) (asc_dgL _ _))) (asc_tmL _ _)) (asc_ptL _ _)) (asc_ofL _), by simp only [List.length_append, dgL_len]; omega⟩
def spN (t na o dg : Int) (L T O : List Int) (k r : Int) (T' O' : List Int) : Prop := T' = T ∧ ((k = 1 ∧ O' = O ∧ ¬ wiV t na o dg L) ∨ (k = 0 ∧ wiV t na o dg L ∧ (∃ M y mo d, rdM L t M ∧ cvP ((M + o) / 1440) y mo d ∧ O' = wiL (M + o) y mo d (t - stI L M) na dg.toNat o) ∧ r = (O'.length : Int)))
theorem spN_det (t na o dg : Int) (L T O : List Int) : kpD (spN t na o dg L T O) := by
  intro k r T1 O1 k' r' T2 O2 h h'
  obtain ⟨h1, h2⟩ := h
  obtain ⟨g1, g2⟩ := h'
  rcases h2 with ⟨a1, a2, a3⟩ | ⟨a1, a2, ⟨M, y, m, d, a3, a4, a5⟩, a6⟩ <;> rcases g2 with ⟨b1, b2, b3⟩ | ⟨b1, b2, ⟨M', y', m', d', b3, b4, b5⟩, b6⟩
  · exact ⟨by omega, by rw [h1, g1], by rw [a2, b2], by omega⟩
  · exact absurd b2 a3
  · exact absurd a2 b3
  · cases rdM_one a3 b3
    obtain ⟨rfl, rfl, rfl⟩ := cvP_one a4 b4
    rw [← a5] at b5
    exact ⟨by omega, by rw [h1, g1], b5.symm, fun _ => by rw [a6, b6, b5]⟩
theorem spN_no2 {t na o dg : Int} {L T O : List Int} {r : Int} {T' O' : List Int} (h : spN t na o dg L T O 2 r T' O') : False := by
  obtain ⟨-, ⟨h, -⟩ | ⟨h, -⟩⟩ := h <;> omega

def spPY (L : List Int) (zc : zY) (k r : Int) (L' : List Int) (zc' : zY) : Prop := L' = L ∧ zc' = zc ∧ (k = 0 ∨ k = 1) ∧ r = r
theorem spPY_no2 {L : List Int} {zc : zY} {r : Int} {L' : List Int} {zc' : zY} (h : spPY L zc 2 r L' zc') : False := by
  obtain ⟨-, -, h | h, -⟩ := h <;> omega

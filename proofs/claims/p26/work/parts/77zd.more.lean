/-! times, parts, offsets, counts -/
def tmL (mi se : Int) : List Int := [84] ++ dgL 2 (mi / 60) ++ [58] ++ dgL 2 (mi % 60) ++ [58] ++ dgL 2 se
def ptL (na : Int) (dg : Nat) : List Int := if dg = 0 then [] else [46] ++ dgL dg (dvN (9 - dg) na)
def ofL (o : Int) : List Int := if o = 0 then [90] else [if o < 0 then 45 else 43] ++ dgL 2 ((if o < 0 then -o else o) / 60) ++ [58] ++ dgL 2 ((if o < 0 then -o else o) % 60)
def cnL (v c : Int) : List Int := if 0 < v then dgL (ndN 13 v) v ++ [c] else []
def zdN : Nat → Int → Nat
  | 0, _ => 0
  | f + 1, v => if v % 10 = 0 then zdN f (v / 10) else f + 1
def scL (v na : Int) : List Int := dgL (ndN 13 v) v ++ (if 0 < na then ptL na (zdN 9 na) else []) ++ [83]
theorem zdN_le (f : Nat) (v : Int) : zdN f v ≤ f := by
  induction f generalizing v with
  | zero => exact Nat.le_refl 0
  | succ f ih => unfold zdN; split; exact Nat.le_succ_of_le (ih _); exact Nat.le_refl _
theorem ptL_len (na : Int) (dg : Nat) : (ptL na dg).length ≤ dg + 1 := by
  unfold ptL
  split
  · exact Nat.zero_le _
  · rw [List.length_append, dgL_len]; simp; omega
theorem ofL_len (o : Int) : (ofL o).length ≤ 6 := by
  unfold ofL
  split
  · decide
  · simp only [List.length_append, dgL_len, List.length_cons, List.length_nil]; decide
theorem cnL_len (v c : Int) : (cnL v c).length ≤ 15 ∧ (0 < v → 2 ≤ (cnL v c).length) ∧ (v ≤ 0 → (cnL v c).length = 0) := by
  have h := ndN_le 13 v
  unfold cnL
  split
  · simp only [List.length_append, dgL_len, List.length_cons, List.length_nil]; omega
  · simp; omega
theorem scL_len (v na : Int) : (scL v na).length ≤ 25 := by
  have h := ndN_le 13 v
  have h2 := ptL_len na (zdN 9 na)
  have h3 := zdN_le 9 na
  unfold scL
  split
  · simp only [List.length_append, dgL_len, List.length_cons, List.length_nil]; omega
  · simp only [List.length_append, dgL_len, List.length_cons, List.length_nil]; omega
theorem asc_tmL (mi se : Int) : asc (tmL mi se) := asc_app (asc_app (asc_app (asc_app (asc_app (asc_one (by decide) (by decide)) (asc_dgL _ _)) (asc_one (by decide) (by decide))) (asc_dgL _ _)) (asc_one (by decide) (by decide))) (asc_dgL _ _)
theorem asc_ptL (na : Int) (dg : Nat) : asc (ptL na dg) := by
  unfold ptL
  split
  · exact asc_nil
  · exact asc_app (asc_one (by decide) (by decide)) (asc_dgL _ _)
theorem asc_ofL (o : Int) : asc (ofL o) := by
  unfold ofL
  split
  · exact asc_one (by decide) (by decide)
  · exact asc_app (asc_app (asc_app (asc_one (by split <;> omega) (by split <;> omega)) (asc_dgL _ _)) (asc_one (by decide) (by decide))) (asc_dgL _ _)
theorem asc_cnL (v : Int) {c : Int} (h1 : 0 ≤ c) (h2 : c ≤ 127) : asc (cnL v c) := by
  unfold cnL
  split
  · exact asc_app (asc_dgL _ _) (asc_one h1 h2)
  · exact asc_nil
theorem asc_scL (v na : Int) : asc (scL v na) := by
  unfold scL
  split
  · exact asc_app (asc_app (asc_dgL _ _) (asc_ptL _ _)) (asc_one (by decide) (by decide))
  · exact asc_app (asc_app (asc_dgL _ _) asc_nil) (asc_one (by decide) (by decide))
theorem tmL_len (mi se : Int) : (tmL mi se).length = 9 := by
  unfold tmL
  simp only [List.length_append, dgL_len, List.length_cons, List.length_nil]

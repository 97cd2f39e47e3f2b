/-! the instants of a local time: the class's list -/
def insF (t : Int) : List Int → List Int
  | [] => [t]
  | x :: r => if x < t then x :: insF t r else if x = t then x :: r else t :: x :: r
theorem insF_len (t : Int) : ∀ A : List Int, (insF t A).length ≤ A.length + 1
  | [] => Nat.le_refl _
  | x :: r => by
    have ih := insF_len t r
    show (if x < t then x :: insF t r else if x = t then x :: r else t :: x :: r).length ≤ r.length + 1 + 1
    split
    · show (insF t r).length + 1 ≤ _; omega
    · split
      · show r.length + 1 ≤ _; omega
      · show r.length + 1 + 1 ≤ _; omega
theorem jN_ins {A : List Int} {z z' : Nat → Value} {t : Int64} {p : Nat} (hp : p ≤ A.length) (h : jN A z) (h1 : ∀ j, j < p → z' j = z j) (h2 : z' p = .long t) (h3 : ∀ j, p < j → j ≤ A.length → z' j = z (j - 1)) : jN (A.take p ++ t.toInt :: A.drop p) z' := by
  have hl : (A.take p).length = p := by rw [List.length_take]; omega
  intro i hi
  rw [List.length_append, hl, List.length_cons, List.length_drop] at hi
  by_cases g : i < p
  · obtain ⟨v, e1, e2⟩ := h i (by omega)
    refine ⟨v, (h1 i g).trans e1, ?_⟩
    rw [List.getElem?_append_left (by rw [hl]; exact g), List.getElem?_take_of_lt g]
    exact e2
  · rw [List.getElem?_append_right (by rw [hl]; omega), hl]
    by_cases g2 : i = p
    · subst g2
      refine ⟨t, h2, ?_⟩
      rw [Nat.sub_self]
      rfl
    · obtain ⟨v, e1, e2⟩ := h (i - 1) (by omega)
      refine ⟨v, (h3 i (by omega) (by omega)).trans e1, ?_⟩
      rw [show i - p = (i - 1 - p) + 1 by omega, List.getElem?_cons_succ, List.getElem?_drop, show p + (i - 1 - p) = i - 1 by omega]
      exact e2
def ofsL (e : zE) (r : rU) : List Int := e.1 :: (e.2.map Prod.snd ++ (if r.1 = 0 then [] else if r.1 = 1 then [r.2.1] else [r.2.1, r.2.2.1]))
theorem ofsL_len {e : zE} {r : rU} (h0 : 0 ≤ r.1) (h2 : r.1 ≤ 2) : ((ofsL e r).length : Int) = 1 + (e.2.length : Int) + r.1 := by
  unfold ofsL
  rw [List.length_cons, List.length_append, List.length_map]
  split
  · show ((e.2.length + 0 + 1 : Nat) : Int) = _; omega
  · split
    · show ((e.2.length + 1 + 1 : Nat) : Int) = _; omega
    · show ((e.2.length + 2 + 1 : Nat) : Int) = _; omega
theorem ofsL_first (e : zE) (r : rU) : (ofsL e r)[0]? = some e.1 := rfl
theorem ofsL_chg {e : zE} {r : rU} {i : Nat} {c : Int × Int} (h : e.2[i]? = some c) : (ofsL e r)[i + 1]? = some c.2 := by
  unfold ofsL
  have hlt := (List.getElem?_eq_some_iff.mp h).1
  rw [List.getElem?_cons_succ, List.getElem?_append_left (by rw [List.length_map]; exact hlt), List.getElem?_map, h]
  rfl
theorem ofsL_r1 {e : zE} {r : rU} (h : 1 ≤ r.1) : (ofsL e r)[e.2.length + 1]? = some r.2.1 := by
  unfold ofsL
  rw [List.getElem?_cons_succ, List.getElem?_append_right (by rw [List.length_map]; exact Nat.le_refl _), List.length_map, Nat.sub_self, if_neg (by omega)]
  split <;> rfl
theorem ofsL_r2 {e : zE} {r : rU} (h : 2 ≤ r.1) : (ofsL e r)[e.2.length + 2]? = some r.2.2.1 := by
  unfold ofsL
  rw [List.getElem?_cons_succ, List.getElem?_append_right (by rw [List.length_map]; omega), List.length_map, show e.2.length + 1 - e.2.length = 1 by omega, if_neg (by omega), if_neg (by omega)]
  rfl
abbrev mIn (m : Int) : Prop := -526984793280 ≤ m ∧ m ≤ 524913079679
def lsS (L : List Int) (u : Int) : Int := if u % 1440 = 1439 ∧ u / 1440 ∈ L then 60 else 59
def clS (L : List Int) (e : zE) (r : rU) (m s : Int) (A : List Int) (o : Int) : List Int := if mIn (m - o) ∧ s ≤ lsS L (m - o) ∧ ofF L e r (stI L (m - o) + s) = o then insF (stI L (m - o) + s) A else A
def clF (L : List Int) (e : zE) (r : rU) (m s : Int) : List Int := (ofsL e r).foldl (clS L e r m s) []
theorem clS_len {L : List Int} {e : zE} {r : rU} {m s : Int} {A : List Int} {o : Int} : (clS L e r m s A o).length ≤ A.length + 1 := by
  unfold clS
  split
  · exact insF_len _ _
  · omega
theorem fold_take {α β : Type} {f : β → α → β} {b : β} {l : List α} {i : Nat} {v : α} (h : l[i]? = some v) : (l.take (i + 1)).foldl f b = f ((l.take i).foldl f b) v := by
  rw [List.take_add_one, h, List.foldl_append]
  rfl
/-- offsets and instants of a zone: in their bounds, rising -/
def zP (Z : List zE) : Prop := ∀ e ∈ Z, oOK e.1 ∧ (∀ c ∈ e.2, oOK c.2 ∧ -31700000000000 ≤ c.1 ∧ c.1 ≤ 31700000000000) ∧ srt e.2
def loR (A : List Int) (k : Int) : Int := if k = -1 then (A.length : Int) else match A[k.toNat]? with
  | some v => v
  | none => NONEI
def gK (i m s k : Int) (zc : zY) : Prop := 0 ≤ i ∧ i < (zc.1.length : Int) ∧ 0 ≤ s ∧ s ≤ 60 ∧ -1 ≤ k ∧ mOK m
def spKY (i m s q : Int) (L : List Int) (zc : zY) (k r : Int) (L' : List Int) (zc' : zY) : Prop := L' = L ∧ zc' = zc ∧ ((k = 1 ∧ ¬ gK i m s q zc) ∨ (k = 0 ∧ gK i m s q zc ∧ ∃ e u, zc.1[i.toNat]? = some e ∧ zc.2[i.toNat]? = some u ∧ r = loR (clF L e u m s) q))
theorem spKY_det (i m s q : Int) (L : List Int) (zc : zY) : ypD (spKY i m s q L zc) := by
  intro k r L1 z k' r' L2 z' h h'
  obtain ⟨h1, h2, h3⟩ := h
  obtain ⟨g1, g2, g3⟩ := h'
  rcases h3 with ⟨a1, a2⟩ | ⟨a1, a2, e, u, a3, a4, a5⟩ <;> rcases g3 with ⟨b1, b2⟩ | ⟨b1, b2, e', u', b3, b4, b5⟩
  · exact ⟨by omega, by rw [h1, g1], by rw [h2, g2], by omega⟩
  · exact absurd b2 a2
  · exact absurd a2 b2
  · cases a3.symm.trans b3
    cases a4.symm.trans b4
    exact ⟨by omega, by rw [h1, g1], by rw [h2, g2], fun _ => by rw [a5, b5]⟩
theorem spKY_no2 {i m s q : Int} {L : List Int} {zc : zY} {r : Int} {L' : List Int} {zc' : zY} (h : spKY i m s q L zc 2 r L' zc') : False := by
  obtain ⟨-, -, ⟨h, -⟩ | ⟨h, -⟩⟩ := h <;> omega
theorem l_n2 {p a b : Nat} (h1 : p ≠ a) (h2 : p ≠ b) : p ∉ [a, b] := fun h => by
  rcases List.mem_cons.mp h with g | h
  · exact h1 g
  · exact h2 (List.mem_singleton.mp h)
theorem loR_none {A : List Int} {k : Int} (h1 : k ≠ -1) (h0 : 0 ≤ k) (h : (A.length : Int) ≤ k) : loR A k = NONEI := by
  unfold loR
  rw [if_neg h1, List.getElem?_eq_none (by omega)]
theorem loR_some {A : List Int} {k v : Int} (h1 : k ≠ -1) (h : A[k.toNat]? = some v) : loR A k = v := by
  unfold loR
  rw [if_neg h1, h]
theorem clF_len {L : List Int} {e : zE} {r : rU} {m s : Int} : (clF L e r m s).length ≤ (ofsL e r).length := by
  have key : ∀ (l : List Int) (A : List Int), (l.foldl (clS L e r m s) A).length ≤ A.length + l.length := by
    intro l
    induction l with
    | nil => intro A; exact Nat.le_refl _
    | cons x t ih =>
      intro A
      have h1 := ih (clS L e r m s A x)
      have h2 := clS_len (L := L) (e := e) (r := r) (m := m) (s := s) (A := A) (o := x)
      show (t.foldl (clS L e r m s) (clS L e r m s A x)).length ≤ A.length + (t.length + 1)
      omega
  have := key (ofsL e r) []
  show ((ofsL e r).foldl (clS L e r m s) []).length ≤ _
  have h0 : ([] : List Int).length = 0 := rfl
  omega

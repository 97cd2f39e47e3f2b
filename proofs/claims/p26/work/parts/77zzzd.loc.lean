/-! p14: the instants of a local time, class (every offset as it comes, an instant once) and reference (every offset once) -/
abbrev PW (A : List Int) : Prop := List.Pairwise (fun a b : Int => a < b) A
theorem insF_mem {t x : Int} : ∀ {A : List Int}, x ∈ insF t A ↔ x = t ∨ x ∈ A := by
  intro A
  induction A with
  | nil => show x ∈ [t] ↔ _; rw [List.mem_singleton]; exact ⟨Or.inl, fun h => h.elim id (fun g => by cases g)⟩
  | cons y r ih =>
    show x ∈ (if y < t then y :: insF t r else if y = t then y :: r else t :: y :: r) ↔ _
    split
    · rw [List.mem_cons, ih, List.mem_cons]
      exact ⟨fun h => h.elim (fun g => Or.inr (Or.inl g)) (fun g => g.elim Or.inl (fun q => Or.inr (Or.inr q))), fun h => h.elim (fun g => Or.inr (Or.inl g)) (fun g => g.elim Or.inl (fun q => Or.inr (Or.inr q)))⟩
    · split
      · rename_i e
        rw [List.mem_cons, ← e]
        exact ⟨Or.inr, fun h => h.elim Or.inl id⟩
      · rw [List.mem_cons]
theorem insF_pw {t : Int} : ∀ {A : List Int}, PW A → PW (insF t A) := by
  intro A
  induction A with
  | nil => intro _; exact List.pairwise_singleton _ t
  | cons y r ih =>
    intro h
    obtain ⟨h1, h2⟩ := List.pairwise_cons.mp h
    show PW (if y < t then y :: insF t r else if y = t then y :: r else t :: y :: r)
    split
    · rename_i g
      exact List.pairwise_cons.mpr ⟨fun x hx => (insF_mem.mp hx).elim (fun e => by rw [e]; exact g) (h1 x), ih h2⟩
    · rename_i g
      split
      · exact h
      · rename_i g2
        exact List.pairwise_cons.mpr ⟨fun x hx => (List.mem_cons.mp hx).elim (fun e => by omega) (fun q => by have := h1 x q; omega), h⟩
theorem insF_in {t : Int} : ∀ {A : List Int}, PW A → t ∈ A → insF t A = A := by
  intro A
  induction A with
  | nil => intro _ h; cases h
  | cons y r ih =>
    intro h hm
    obtain ⟨h1, h2⟩ := List.pairwise_cons.mp h
    show (if y < t then y :: insF t r else if y = t then y :: r else t :: y :: r) = y :: r
    rcases List.mem_cons.mp hm with e | q
    · rw [if_neg (by omega), if_pos e.symm]
    · rw [if_pos (h1 t q), ih h2 q]
theorem insF_at {t : Int} : ∀ {A : List Int} {i : Nat}, i ≤ A.length → (∀ x ∈ A.take i, x < t) → (∀ x ∈ A.drop i, t < x) → insF t A = A.take i ++ t :: A.drop i := by
  intro A
  induction A with
  | nil => intro i _ _ _; rw [List.take_nil, List.drop_nil]; rfl
  | cons y r ih =>
    intro i hi h1 h2
    cases i with
    | zero =>
      have := h2 y (by rw [List.drop_zero]; exact List.mem_cons_self)
      show (if y < t then y :: insF t r else if y = t then y :: r else t :: y :: r) = t :: y :: r
      rw [if_neg (by omega), if_neg (by omega)]
    | succ i =>
      have := h1 y (by rw [List.take_succ_cons]; exact List.mem_cons_self)
      show (if y < t then y :: insF t r else if y = t then y :: r else t :: y :: r) = y :: (r.take i ++ t :: r.drop i)
      rw [if_pos this, ih (i := i) (by rw [List.length_cons] at hi; omega) (fun x hx => h1 x (by rw [List.take_succ_cons]; exact List.mem_cons_of_mem _ hx)) (fun x hx => h2 x (by rw [List.drop_succ_cons]; exact hx))]
def nwG (S : List Int) : List Int → List Int
  | [] => []
  | o :: r => if o ∈ S then nwG S r else o :: nwG (S ++ [o]) r
abbrev cnO (L : List Int) (e : zE) (r : rU) (m s o : Int) : Prop := mIn (m - o) ∧ s ≤ lsS L (m - o) ∧ ofF L e r (stI L (m - o) + s) = o
theorem clS_yes {L : List Int} {e : zE} {r : rU} {m s o : Int} {A : List Int} (h : cnO L e r m s o) : clS L e r m s A o = insF (stI L (m - o) + s) A := by unfold clS; rw [if_pos h]
theorem clS_no {L : List Int} {e : zE} {r : rU} {m s o : Int} {A : List Int} (h : ¬ cnO L e r m s o) : clS L e r m s A o = A := by unfold clS; rw [if_neg h]
theorem clS_pw {L : List Int} {e : zE} {r : rU} {m s o : Int} {A : List Int} (h : PW A) : PW (clS L e r m s A o) := by
  unfold clS
  split
  · exact insF_pw h
  · exact h
theorem fold_nw {L : List Int} {e : zE} {r : rU} {m s : Int} : ∀ (l S A : List Int), PW A → (∀ o ∈ S, cnO L e r m s o → stI L (m - o) + s ∈ A) → l.foldl (clS L e r m s) A = (nwG S l).foldl (clS L e r m s) A := by
  intro l
  induction l with
  | nil => intro S A _ _; rfl
  | cons o t ih =>
    intro S A hp hS
    show t.foldl (clS L e r m s) (clS L e r m s A o) = (if o ∈ S then nwG S t else o :: nwG (S ++ [o]) t).foldl (clS L e r m s) A
    by_cases g : o ∈ S
    · rw [if_pos g]
      have e9 : clS L e r m s A o = A := by
        by_cases c : cnO L e r m s o
        · rw [clS_yes c]; exact insF_in hp (hS o g c)
        · exact clS_no c
      rw [e9]
      exact ih S A hp hS
    · rw [if_neg g]
      show _ = (nwG (S ++ [o]) t).foldl (clS L e r m s) (clS L e r m s A o)
      refine ih (S ++ [o]) _ (clS_pw hp) (fun o' ho c => ?_)
      by_cases c0 : cnO L e r m s o
      · rw [clS_yes c0]
        rcases List.mem_append.mp ho with q | q
        · exact insF_mem.mpr (Or.inr (hS o' q c))
        · rw [List.mem_singleton.mp q]; exact insF_mem.mpr (Or.inl rfl)
      · rw [clS_no c0]
        rcases List.mem_append.mp ho with q | q
        · exact hS o' q c
        · rw [List.mem_singleton.mp q] at c; exact absurd c c0
theorem clF_nw {L : List Int} {e : zE} {r : rU} {m s : Int} : clF L e r m s = (nwG [] (ofsL e r)).foldl (clS L e r m s) [] := fold_nw _ _ _ List.Pairwise.nil (fun o ho => by cases ho)
/-- the reference's list of offsets grows so -/
def odG (S : List Int) : List Int → List Int
  | [] => S
  | o :: r => odG (if o ∈ S then S else S ++ [o]) r
theorem od_nw : ∀ (l S : List Int), odG S l = S ++ nwG S l := by
  intro l
  induction l with
  | nil => intro S; show S = S ++ []; rw [List.append_nil]
  | cons o t ih =>
    intro S
    show odG (if o ∈ S then S else S ++ [o]) t = S ++ (if o ∈ S then nwG S t else o :: nwG (S ++ [o]) t)
    by_cases g : o ∈ S
    · rw [if_pos g, if_pos g]; exact ih S
    · rw [if_neg g, if_neg g, ih (S ++ [o]), List.append_assoc]; rfl
theorem od_nodup : ∀ (l S : List Int), S.Nodup → (odG S l).Nodup := by
  intro l
  induction l with
  | nil => intro S h; exact h
  | cons o t ih =>
    intro S h
    show (odG (if o ∈ S then S else S ++ [o]) t).Nodup
    by_cases g : o ∈ S
    · rw [if_pos g]; exact ih S h
    · rw [if_neg g]
      refine ih _ ?_
      rw [List.nodup_append]
      exact ⟨h, by simp, fun a ha b hb => by rw [List.mem_singleton.mp hb]; exact fun e => g (e ▸ ha)⟩
theorem stI_inj {L : List Int} {a b : Int} (h : stI L a = stI L b) : a = b := by
  rcases Int.lt_trichotomy a b with g | g | g
  · have h3 := stI_mono L a (b - a).toNat
    rw [show a + ((b - a).toNat : Int) = b by omega] at h3
    omega
  · exact g
  · have h3 := stI_mono L b (a - b).toNat
    rw [show b + ((a - b).toNat : Int) = a by omega] at h3
    omega

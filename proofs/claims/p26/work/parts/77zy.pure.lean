/-! a rule's day in a year: class (plF, from the year's first day and whether it is a leap year) and reference (rmG) -/
def bfF (lp m : Int) : Int := bm (m - 1).toNat + (if lp = 1 ∧ 2 < m then 1 else 0)
def bhF (lp m : Int) : Int := bm m.toNat + (if lp = 1 ∧ 2 ≤ m then 1 else 0)
def mdF (ys lp : Int) (d : rD) : Int := bfF lp d.2.1 + (d.2.2.2.1 - (ys + bfF lp d.2.1 + 4) % 7 + 7) % 7 + 7 * (d.2.2.1 - 1)
def plF (ys lp : Int) (d : rD) : Int := if d.1 = 1 then (if lp = 1 ∧ 60 ≤ d.2.1 then d.2.1 else d.2.1 - 1) else if d.1 = 2 then (if lp = 1 ∨ d.2.1 < 365 then d.2.1 else 364) else if 1 ≤ d.2.1 ∧ d.2.1 ≤ 12 then (if mdF ys lp d < bhF lp d.2.1 then mdF ys lp d else mdF ys lp d - 7) else d.2.1
def wqG (w : Int) : Int := if w = 0 then 7 else w
def mdG (y : Int) (d : rD) : Int := nuI y d.2.1 1 + (wqG d.2.2.2.1 - ((nuI y d.2.1 1 + 3) % 7 + 1) + 7) % 7 + 7 * (d.2.2.1 - 1)
def rmG (y : Int) (d : rD) : Int := if d.1 = 0 then (if nuI y d.2.1 1 + mlI y d.2.1 ≤ mdG y d then mdG y d - 7 else mdG y d) else if d.1 = 1 then ysI y + d.2.1 - 1 + (if lpI y = 1 ∧ 60 ≤ d.2.1 then 1 else 0) else ysI y + (if d.2.1 < (if lpI y = 1 then 365 else 364) then d.2.1 else (if lpI y = 1 then 365 else 364))
def rdOK (d : rD) : Prop := (d.1 = 0 ∧ 1 ≤ d.2.1 ∧ d.2.1 ≤ 12 ∧ 1 ≤ d.2.2.1 ∧ d.2.2.1 ≤ 5 ∧ 0 ≤ d.2.2.2.1 ∧ d.2.2.2.1 ≤ 6) ∨ (d.1 = 1 ∧ 1 ≤ d.2.1 ∧ d.2.1 ≤ 365) ∨ (d.1 = 2 ∧ 0 ≤ d.2.1 ∧ d.2.1 ≤ 365)
theorem pl_rm {y : Int} {d : rD} (h : rdOK d) : ysI y + plF (ysI y) (lpI y) d = rmG y d := by
  have hl := lpI_bd y
  rcases h with ⟨h0, h1, h2, h3, h4, h5, h6⟩ | ⟨h0, h1, h2⟩ | ⟨h0, h1, h2⟩
  · have e1 : nuI y d.2.1 1 = ysI y + bfF (lpI y) d.2.1 := by
      unfold nuI bfF
      split <;> split <;> omega
    have e2 : bhF (lpI y) d.2.1 = bfF (lpI y) d.2.1 + mlI y d.2.1 := by
      unfold bhF bfF mlI
      rw [if_neg (show ¬ (d.2.1 < 1 ∨ 12 < d.2.1) by omega)]
      split <;> split <;> split <;> omega
    unfold plF rmG mdF mdG wqG
    rw [if_neg (show ¬ d.1 = 1 by omega), if_neg (show ¬ d.1 = 2 by omega), if_pos (show 1 ≤ d.2.1 ∧ d.2.1 ≤ 12 from ⟨h1, h2⟩), if_pos h0, e1, e2]
    generalize bfF (lpI y) d.2.1 = b
    generalize mlI y d.2.1 = m
    generalize ysI y = s
    split <;> split <;> split <;> omega
  · unfold plF rmG
    rw [if_pos h0, if_neg (show ¬ d.1 = 0 by omega), if_pos h0]
    split <;> omega
  · unfold plF rmG
    rw [if_neg (show ¬ d.1 = 1 by omega), if_pos h0, if_neg (show ¬ d.1 = 0 by omega), if_neg (show ¬ d.1 = 1 by omega)]
    split <;> split <;> (try split) <;> omega
theorem pl_eq {ys lp : Int} {d d' : rD} (h : eqD d d') (hk : d.1 = 0 ∨ d.1 = 1 ∨ d.1 = 2) : plF ys lp d = plF ys lp d' := by
  obtain ⟨h1, h2, -, h4⟩ := h
  unfold plF mdF
  rw [← h1, ← h2]
  by_cases q : d.1 = 0
  · obtain ⟨h5, h6⟩ := h4 q
    rw [h5, h6]
  · rcases hk with g | g | g
    · exact absurd g q
    · rw [if_pos g, if_pos g]
    · rw [if_neg (show ¬ d.1 = 1 by omega), if_pos g, if_neg (show ¬ d.1 = 1 by omega), if_pos g]
/-- the minute of a date in a year; the second offset counts between them -/
def mmF (ys lp : Int) (d : rD) : Int := 1440 * (ys + plF ys lp d) + d.2.2.2.2
def inB (f t m : Int) : Prop := if f < t then f ≤ m ∧ m < t else f ≤ m ∨ m < t
/-! the table of changes: class (stops at the first that is later), reference (goes through all) -/
def tbF : Int → List (Int × Int) → Int → Int
  | f, [], _ => f
  | f, c :: r, t => if c.1 ≤ t then tbF c.2 r t else f
def tbG (f : Int) (C : List (Int × Int)) (t : Int) : Int := C.foldl (fun o c => if c.1 ≤ t then c.2 else o) f
def srt (C : List (Int × Int)) : Prop := ∀ (i j : Nat) (c d : Int × Int), C[i]? = some c → C[j]? = some d → i < j → c.1 < d.1
theorem srt_tail {c : Int × Int} {C : List (Int × Int)} (h : srt (c :: C)) : srt C := fun i j a b h1 h2 h3 => h (i + 1) (j + 1) a b h1 h2 (by omega)
theorem srt_head {c : Int × Int} {C : List (Int × Int)} (h : srt (c :: C)) : ∀ d ∈ C, c.1 < d.1 := fun d hd => by
  obtain ⟨j, hj⟩ := List.getElem?_of_mem hd
  exact h 0 (j + 1) c d rfl hj (by omega)
theorem tbG_none {C : List (Int × Int)} {t : Int} : ∀ {f : Int}, (∀ d ∈ C, t < d.1) → tbG f C t = f := by
  induction C with
  | nil => intro f _; rfl
  | cons c C ih =>
    intro f h
    show tbG (if c.1 ≤ t then c.2 else f) C t = f
    have := h c List.mem_cons_self
    rw [if_neg (by omega)]
    exact ih (fun d hd => h d (List.mem_cons_of_mem _ hd))
theorem tb_same {C : List (Int × Int)} {t : Int} : ∀ {f : Int}, srt C → tbF f C t = tbG f C t := by
  induction C with
  | nil => intro f _; rfl
  | cons c C ih =>
    intro f h
    show (if c.1 ≤ t then tbF c.2 C t else f) = tbG (if c.1 ≤ t then c.2 else f) C t
    by_cases g : c.1 ≤ t
    · rw [if_pos g, if_pos g]; exact ih (srt_tail h)
    · rw [if_neg g, if_neg g]
      exact (tbG_none (fun d hd => by have := srt_head h d hd; omega)).symm
theorem srt_app {C : List (Int × Int)} {t o : Int} (h : srt C) (hb : ∀ c, C[C.length - 1]? = some c → c.1 < t) : srt (C ++ [(t, o)]) := by
  intro i j a b h1 h2 h3
  have hj := (List.getElem?_eq_some_iff.mp h2).1
  rw [List.length_append] at hj
  have hj : j < C.length + 1 := hj
  have hi : i < C.length := by omega
  rw [List.getElem?_append_left hi] at h1
  by_cases e : j = C.length
  · subst e
    rw [List.getElem?_append_right (Nat.le_refl _), Nat.sub_self] at h2
    cases h2
    show a.1 < t
    obtain ⟨c, hc⟩ : ∃ c, C[C.length - 1]? = some c := ⟨_, List.getElem?_eq_getElem (by omega)⟩
    have g := hb c hc
    by_cases e2 : i = C.length - 1
    · rw [e2, hc] at h1
      cases h1
      exact g
    · have := h i (C.length - 1) a c h1 hc (by omega)
      omega
  · rw [List.getElem?_append_left (by omega)] at h2
    exact h i j a b h1 h2 h3

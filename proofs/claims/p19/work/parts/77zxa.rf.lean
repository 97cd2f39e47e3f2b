/-! p19: the reader of texts: the class's, as functions of its own things' fields (by their places) and of the cursor -/
abbrev fN : Type := Nat → Int
abbrev fS : Type := fN × uS
def upF (f : fN) (k : Nat) (v : Int) : fN := fun j => if j = k then v else f j
theorem up_eq {f : fN} {k : Nat} {v : Int} : upF f k v k = v := if_pos rfl
theorem up_ne {f : fN} {k j : Nat} {v : Int} (h : j ≠ k) : upF f k v j = f j := if_neg h
/-- a number of so many digits into a field, its place into another -/
def nmF (T : List Int) (k ka : Nat) (li : Int) (n : Nat) (x : fS) : fS := (upF (upF x.1 ka x.2.1) k (nbF T li n 0 0 x.2).1, (nbF T li n 0 0 x.2).2)
/-- a date: 0 kind, 1 dashed, 2 its year's place, 3 signed, 4 negative, 5 year, 6 7 month or week or ordinal, 8 9 the last -/
def yrF (T : List Int) (x : fS) : fS :=
  if (tkF T 45 x.2).1 = 1 then (upF (upF (upF (upF x.1 2 x.2.1) 4 (tkF T 45 x.2).1) 3 1) 5 (nbF T 6 6 0 0 (tkF T 45 x.2).2).1, (nbF T 6 6 0 0 (tkF T 45 x.2).2).2)
  else if (tkF T 43 (tkF T 45 x.2).2).1 = 1 then (upF (upF (upF (upF x.1 2 x.2.1) 4 (tkF T 45 x.2).1) 3 1) 5 (nbF T 6 6 0 0 (tkF T 43 (tkF T 45 x.2).2).2).1, (nbF T 6 6 0 0 (tkF T 43 (tkF T 45 x.2).2).2).2)
  else (upF (upF (upF (upF x.1 2 x.2.1) 4 (tkF T 45 x.2).1) 3 0) 5 (nbF T 4 4 0 0 (tkF T 43 (tkF T 45 x.2).2).2).1, (nbF T 4 4 0 0 (tkF T 43 (tkF T 45 x.2).2).2).2)
def enF (kd wh : Int) (x : fS) : fS := (upF x.1 0 kd, if wh = 1 then flF x.2 else x.2)
def laF (T : List Int) (kd li : Int) (n : Nat) (x : fS) : fS := nmF T 9 8 li n (upF x.1 0 kd, x.2)
def wkF (T : List Int) (wh : Int) (x : fS) : fS :=
  if x.1 1 = 1 then (if (tkF T 45 (nmF T 7 6 2 2 x).2).1 = 1 then laF T 1 1 1 ((nmF T 7 6 2 2 x).1, (tkF T 45 (nmF T 7 6 2 2 x).2).2) else enF 5 wh ((nmF T 7 6 2 2 x).1, (tkF T 45 (nmF T 7 6 2 2 x).2).2))
  else (if 0 ≤ dgF T (nmF T 7 6 2 2 x).2 then laF T 1 1 1 (nmF T 7 6 2 2 x) else enF 5 wh (nmF T 7 6 2 2 x))
def daF (T : List Int) (wh : Int) (x : fS) : fS :=
  if (tkF T 45 (nmF T 7 6 2 2 x).2).1 = 1 then laF T 0 2 2 ((nmF T 7 6 2 2 x).1, (tkF T 45 (nmF T 7 6 2 2 x).2).2)
  else if 0 ≤ dgF T (tkF T 45 (nmF T 7 6 2 2 x).2).2 then (upF (upF (nmF T 7 6 2 2 x).1 0 2) 7 ((nbF T 2 2 0 0 x.2).1 * 10 + (nbF T 1 1 0 0 (tkF T 45 (nmF T 7 6 2 2 x).2).2).1), (nbF T 1 1 0 0 (tkF T 45 (nmF T 7 6 2 2 x).2).2).2)
  else enF 4 wh ((nmF T 7 6 2 2 x).1, (tkF T 45 (nmF T 7 6 2 2 x).2).2)
def plF9 (T : List Int) (x : fS) : fS :=
  if 0 ≤ dgF T (nbF T 3 3 0 0 x.2).2 then (upF (upF (upF (upF (upF x.1 6 x.2.1) 8 (x.2.1 + 2)) 0 0) 7 (((nbF T 3 3 0 0 x.2).1 * 10 + (nbF T 1 1 0 0 (nbF T 3 3 0 0 x.2).2).1) / 100)) 9 (((nbF T 3 3 0 0 x.2).1 * 10 + (nbF T 1 1 0 0 (nbF T 3 3 0 0 x.2).2).1) % 100), (nbF T 1 1 0 0 (nbF T 3 3 0 0 x.2).2).2)
  else (upF (upF (upF (upF x.1 6 x.2.1) 8 (x.2.1 + 2)) 0 2) 7 (nbF T 3 3 0 0 x.2).1, (nbF T 3 3 0 0 x.2).2)
/-- what comes behind the year -/
def beF (T : List Int) (wh : Int) (x : fS) : fS :=
  if x.1 1 = 1 ∨ x.1 3 = 0 then
    (if (tkF T 87 x.2).1 = 1 then wkF T wh (x.1, (tkF T 87 x.2).2) else if x.1 1 = 1 then daF T wh (x.1, (tkF T 87 x.2).2) else if 0 ≤ dgF T (tkF T 87 x.2).2 then plF9 T (x.1, (tkF T 87 x.2).2) else enF 3 wh (x.1, (tkF T 87 x.2).2))
  else enF 3 wh x
def dtF (T : List Int) (wh : Int) (x : fS) : fS := beF T wh (upF (yrF T (upF (upF x.1 7 1) 9 1, x.2)).1 1 (tkF T 45 (yrF T (upF (upF x.1 7 1) 9 1, x.2)).2).1, (tkF T 45 (yrF T (upF (upF x.1 7 1) 9 1, x.2)).2).2)
def dfF (T : List Int) (x : fS) : fS := nmF T 9 8 2 2 ((nmF T 7 6 2 2 (upF (upF (upF x.1 0 0) 4 0) 5 (nbF T 4 4 0 0 x.2).1, ndF T 45 (nbF T 4 4 0 0 x.2).2)).1, ndF T 45 (nmF T 7 6 2 2 (upF (upF (upF x.1 0 0) 4 0) 5 (nbF T 4 4 0 0 x.2).1, ndF T 45 (nbF T 4 4 0 0 x.2).2)).2)
/-- the digits of a part, nine of them count -/
def ptR (T : List Int) : Nat → Int → Int → uS → (Int × Int) × uS
  | 0, v, k, s => ((v, k), s)
  | n + 1, v, k, s => if dgF T s < 0 then ((v, k), s) else if k < 9 then ptR T n (v * 10 + dgF T s) (k + 1) (s.1 + 1, s.2) else ptR T n v k (s.1 + 1, s.2)
def tenF : Nat → Int → Int
  | 0, v => v
  | n + 1, v => tenF n (v * 10)
def ptF (T : List Int) (s : uS) : Int × uS := (tenF (9 - (ptR T 120 0 0 (if dgF T s < 0 then flF s else s)).1.2.toNat) (ptR T 120 0 0 (if dgF T s < 0 then flF s else s)).1.1, (ptR T 120 0 0 (if dgF T s < 0 then flF s else s)).2)
/-- a time: 0 1 hours, 2 3 minutes, 4 5 seconds (place, number), 6 part, 7 unit, 8 manner, 9 negative, 10 11 12 13 the offset's -/
def tsF (T : List Int) (x : fS) : fS := nmF T 1 0 2 2 (upF (upF (upF (upF (upF (upF (upF x.1 3 0) 5 0) 6 0) 8 (-1)) 9 0) 11 0) 13 0, x.2)
def miF (T : List Int) (x : fS) : fS := nmF T 3 2 2 2 (upF x.1 7 60, x.2)
def scF9 (T : List Int) (x : fS) : fS := nmF T 5 4 2 2 (upF x.1 7 1, x.2)
def ohF (T : List Int) (x : fS) : fS := nmF T 11 10 2 2 (upF (upF x.1 8 0) 9 (if lk T x.2 = 45 then 1 else 0), (x.2.1 + 1, x.2.2))
def omF (T : List Int) (x : fS) : fS := nmF T 13 12 2 2 x
/-- minutes and seconds, and how they were told (1 colons, 2 without) -/
def ms1F (T : List Int) (x : fS) : fS := if (tkF T 58 (miF T x).2).1 = 1 then scF9 T ((miF T x).1, (tkF T 58 (miF T x).2).2) else ((miF T x).1, (tkF T 58 (miF T x).2).2)
def ms2F (T : List Int) (x : fS) : fS := if 0 ≤ dgF T (miF T x).2 then scF9 T ((miF T x).1, (miF T x).2) else miF T x
def ms3F (T : List Int) (mk : Int) (x : fS) : Int × fS := if mk ≠ 1 ∧ 0 ≤ dgF T x.2 then (2, ms2F T x) else (mk, x)
def msF (T : List Int) (mk : Int) (x : fS) : Int × fS := if mk = 2 then ms3F T mk x else if (tkF T 58 x.2).1 = 1 then (1, ms1F T (x.1, (tkF T 58 x.2).2)) else ms3F T mk (x.1, (tkF T 58 x.2).2)
def pa1F (T : List Int) (x : fS) : fS := (upF x.1 6 (ptF T x.2).1, (ptF T x.2).2)
def paF (T : List Int) (x : fS) : fS := if (tkF T 46 x.2).1 = 1 then pa1F T (x.1, (tkF T 46 x.2).2) else if (tkF T 44 (tkF T 46 x.2).2).1 = 1 then pa1F T (x.1, (tkF T 44 (tkF T 46 x.2).2).2) else (x.1, (tkF T 44 (tkF T 46 x.2).2).2)
def pdF (T : List Int) (x : fS) : fS := if (tkF T 46 x.2).1 = 1 then pa1F T (x.1, (tkF T 46 x.2).2) else (x.1, (tkF T 46 x.2).2)
def of3F (T : List Int) (fd : Int) (x : fS) : fS := if fd ≠ 1 ∧ 0 ≤ dgF T x.2 then omF T (x.1, x.2) else x
def of2F (T : List Int) (fd : Int) (x : fS) : fS := if fd = 2 then of3F T fd x else if (tkF T 58 x.2).1 = 1 then omF T (x.1, (tkF T 58 x.2).2) else of3F T fd (x.1, (tkF T 58 x.2).2)
def ofF9 (T : List Int) (fd : Int) (x : fS) : fS :=
  if (tkF T 90 x.2).1 = 1 then (upF x.1 8 1, (tkF T 90 x.2).2)
  else if lk T (tkF T 90 x.2).2 = 43 ∨ lk T (tkF T 90 x.2).2 = 45 then of2F T fd (ohF T (x.1, (tkF T 90 x.2).2)) else (x.1, (tkF T 90 x.2).2)
def tmF9 (T : List Int) (mk : Int) (x : fS) : fS := ofF9 T (msF T mk (upF (tsF T x).1 7 3600, (tsF T x).2)).1 (paF T (msF T mk (upF (tsF T x).1 7 3600, (tsF T x).2)).2)
def ozF (T : List Int) (x : fS) : fS :=
  if (tkF T 90 x.2).1 = 1 then (upF x.1 8 1, (tkF T 90 x.2).2) else if (tkF T 122 (tkF T 90 x.2).2).1 = 1 then (upF x.1 8 1, (tkF T 122 (tkF T 90 x.2).2).2)
  else if lk T (tkF T 122 (tkF T 90 x.2).2).2 = 43 ∨ lk T (tkF T 122 (tkF T 90 x.2).2).2 = 45 then omF T ((ohF T (x.1, (tkF T 122 (tkF T 90 x.2).2).2)).1, ndF T 58 (ohF T (x.1, (tkF T 122 (tkF T 90 x.2).2).2)).2)
  else (x.1, flF (tkF T 122 (tkF T 90 x.2).2).2)
def tf2F (T : List Int) (x : fS) : fS := pdF T (scF9 T (x.1, ndF T 58 x.2))
def tfF (T : List Int) (x : fS) : fS := ozF T (tf2F T (miF T ((tsF T x).1, ndF T 58 (tsF T x).2)))
/-! what a broken text leaves -/
theorem fz.on {s t u : uS} (g : fz t u) (h : fz s t) : fz s u := h.trans g
theorem nmF_fz {T : List Int} {k ka n : Nat} {li : Int} {x : fS} : fz x.2 (nmF T k ka li n x).2 := fun q => by
  unfold nmF
  rw [nbF_1 q]
  exact ⟨rfl, q⟩
theorem nb_fz {T : List Int} {n : Nat} {li : Int} {s : uS} : fz s (nbF T li n 0 0 s).2 := fun q => by rw [nbF_1 q]; exact ⟨rfl, q⟩
theorem yrF_fz {T : List Int} {x : fS} : fz x.2 (yrF T x).2 := by
  have h1 := tkF_fz (T := T) (c := 45) (s := x.2) (by decide)
  have h2 := h1.trans (tkF_fz (T := T) (c := 43) (s := (tkF T 45 x.2).2) (by decide))
  unfold yrF
  split
  · exact h1.trans nb_fz
  · split
    · exact h2.trans nb_fz
    · exact h2.trans nb_fz
theorem enF_fz {kd wh : Int} {x : fS} : fz x.2 (enF kd wh x).2 := by
  unfold enF
  split
  · exact flF_fz
  · exact fz.rfl'
theorem laF_fz {T : List Int} {kd li : Int} {n : Nat} {x : fS} : fz x.2 (laF T kd li n x).2 := nmF_fz (x := (upF x.1 0 kd, x.2))
theorem wkF_fz {T : List Int} {wh : Int} {x : fS} : fz x.2 (wkF T wh x).2 := by
  have h0 := nmF_fz (T := T) (k := 7) (ka := 6) (li := 2) (n := 2) (x := x)
  have h1 := h0.trans (tkF_fz (T := T) (c := 45) (s := (nmF T 7 6 2 2 x).2) (by decide))
  unfold wkF
  split
  · split
    · exact fz.on laF_fz h1
    · exact fz.on enF_fz h1
  · split
    · exact fz.on laF_fz h0
    · exact fz.on enF_fz h0
theorem daF_fz {T : List Int} {wh : Int} {x : fS} : fz x.2 (daF T wh x).2 := by
  have h0 := nmF_fz (T := T) (k := 7) (ka := 6) (li := 2) (n := 2) (x := x)
  have h1 := h0.trans (tkF_fz (T := T) (c := 45) (s := (nmF T 7 6 2 2 x).2) (by decide))
  unfold daF
  split
  · exact fz.on laF_fz h1
  · split
    · exact h1.trans nb_fz
    · exact fz.on enF_fz h1
theorem plF9_fz {T : List Int} {x : fS} : fz x.2 (plF9 T x).2 := by
  unfold plF9
  split
  · exact nb_fz.trans nb_fz
  · exact nb_fz
theorem beF_fz {T : List Int} {wh : Int} {x : fS} : fz x.2 (beF T wh x).2 := by
  have h1 := tkF_fz (T := T) (c := 87) (s := x.2) (by decide)
  unfold beF
  split
  · split
    · exact fz.on wkF_fz h1
    · split
      · exact fz.on daF_fz h1
      · split
        · exact fz.on plF9_fz h1
        · exact fz.on enF_fz h1
  · exact enF_fz
theorem dtF_fz {T : List Int} {wh : Int} {x : fS} : fz x.2 (dtF T wh x).2 := by
  have h1 : fz x.2 (yrF T (upF (upF x.1 7 1) 9 1, x.2)).2 := yrF_fz (x := (upF (upF x.1 7 1) 9 1, x.2))
  have h2 := h1.trans (tkF_fz (T := T) (c := 45) (by decide))
  exact fz.on beF_fz h2
theorem dfF_fz {T : List Int} {x : fS} : fz x.2 (dfF T x).2 := by
  have h1 : fz x.2 (nbF T 4 4 0 0 x.2).2 := nb_fz
  have h2 := h1.trans (ndF_fz (T := T) (c := 45) (by decide))
  have h3 := h2.trans (nmF_fz (T := T) (k := 7) (ka := 6) (li := 2) (n := 2) (x := (upF (upF (upF x.1 0 0) 4 0) 5 (nbF T 4 4 0 0 x.2).1, ndF T 45 (nbF T 4 4 0 0 x.2).2)))
  have h4 := h3.trans (ndF_fz (T := T) (c := 45) (by decide))
  exact fz.on nmF_fz h4
theorem ptR_1 {T : List Int} {v k : Int} {n : Nat} {s : uS} (h : s.2.1 = 1) : ptR T n v k s = ((v, k), s) := by
  cases n with
  | zero => rfl
  | succ n =>
    show (if dgF T s < 0 then _ else _) = _
    rw [if_pos (dgF_lt.mpr (by rw [lk_1 (by omega)]; unfold isD; omega))]
theorem ptF_fz {T : List Int} {s : uS} : fz s (ptF T s).2 := fun q => by
  have hd : dgF T s < 0 := dgF_lt.mpr (by rw [lk_1 (by omega)]; unfold isD; omega)
  unfold ptF
  rw [if_pos hd, ptR_1 (show (flF s).2.1 = 1 from rfl)]
  exact ⟨rfl, rfl⟩
theorem tsF_fz {T : List Int} {x : fS} : fz x.2 (tsF T x).2 := nmF_fz (x := (upF (upF (upF (upF (upF (upF (upF x.1 3 0) 5 0) 6 0) 8 (-1)) 9 0) 11 0) 13 0, x.2))
theorem miF_fz {T : List Int} {x : fS} : fz x.2 (miF T x).2 := nmF_fz (x := (upF x.1 7 60, x.2))
theorem scF9_fz {T : List Int} {x : fS} : fz x.2 (scF9 T x).2 := nmF_fz (x := (upF x.1 7 1, x.2))
theorem ms1F_fz {T : List Int} {x : fS} : fz x.2 (ms1F T x).2 := by
  unfold ms1F
  split
  · exact fz.on scF9_fz ((miF_fz (T := T) (x := x)).trans (tkF_fz (T := T) (c := 58) (by decide)))
  · exact (miF_fz (T := T) (x := x)).trans (tkF_fz (T := T) (c := 58) (by decide))
theorem ms3F_fz {T : List Int} {mk : Int} {x : fS} : fz x.2 (ms3F T mk x).2.2 := by
  unfold ms3F
  split
  · show fz x.2 (ms2F T x).2
    unfold ms2F
    split
    · exact fz.on scF9_fz (miF_fz (T := T) (x := x))
    · exact miF_fz
  · exact fz.rfl'
theorem msF_fz {T : List Int} {mk : Int} {x : fS} : fz x.2 (msF T mk x).2.2 := by
  have h1 := tkF_fz (T := T) (c := 58) (s := x.2) (by decide)
  unfold msF
  split
  · exact ms3F_fz
  · split
    · exact fz.on ms1F_fz h1
    · exact fz.on ms3F_fz h1
theorem pa1F_fz {T : List Int} {x : fS} : fz x.2 (pa1F T x).2 := ptF_fz
theorem paF_fz {T : List Int} {x : fS} : fz x.2 (paF T x).2 := by
  have h1 := tkF_fz (T := T) (c := 46) (s := x.2) (by decide)
  have h2 := h1.trans (tkF_fz (T := T) (c := 44) (s := (tkF T 46 x.2).2) (by decide))
  unfold paF
  split
  · exact fz.on pa1F_fz h1
  · split
    · exact fz.on pa1F_fz h2
    · exact h2
theorem pdF_fz {T : List Int} {x : fS} : fz x.2 (pdF T x).2 := by
  have h1 := tkF_fz (T := T) (c := 46) (s := x.2) (by decide)
  unfold pdF
  split
  · exact fz.on pa1F_fz h1
  · exact h1

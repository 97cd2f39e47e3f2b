/-! p19: durations, what is settled, the forms -/
theorem ohF_fz {T : List Int} {x : fS} (h : lk T x.2 = 43 ∨ lk T x.2 = 45) : fz x.2 (ohF T x).2 := fun q => by
  rw [lk_1 (by omega)] at h
  omega
theorem omF_fz {T : List Int} {x : fS} : fz x.2 (omF T x).2 := nmF_fz
theorem of3F_fz {T : List Int} {fd : Int} {x : fS} : fz x.2 (of3F T fd x).2 := by
  unfold of3F
  split
  · exact omF_fz
  · exact fz.rfl'
theorem of2F_fz {T : List Int} {fd : Int} {x : fS} : fz x.2 (of2F T fd x).2 := by
  have h1 := tkF_fz (T := T) (c := 58) (s := x.2) (by decide)
  unfold of2F
  split
  · exact of3F_fz
  · split
    · exact fz.on omF_fz h1
    · exact fz.on of3F_fz h1
theorem ofF9_fz {T : List Int} {fd : Int} {x : fS} : fz x.2 (ofF9 T fd x).2 := by
  have h1 := tkF_fz (T := T) (c := 90) (s := x.2) (by decide)
  unfold ofF9
  split
  · exact h1
  · split
    · rename_i h
      exact fz.on of2F_fz (h1.trans (ohF_fz (x := (x.1, (tkF T 90 x.2).2)) h))
    · exact h1
theorem tmF9_fz {T : List Int} {mk : Int} {x : fS} : fz x.2 (tmF9 T mk x).2 := by
  have h1 : fz x.2 (tsF T x).2 := tsF_fz
  have h2 : fz x.2 (msF T mk (upF (tsF T x).1 7 3600, (tsF T x).2)).2.2 := h1.trans (msF_fz (x := (upF (tsF T x).1 7 3600, (tsF T x).2)))
  have h3 : fz x.2 (paF T (msF T mk (upF (tsF T x).1 7 3600, (tsF T x).2)).2).2 := fz.on paF_fz h2
  exact fz.on ofF9_fz h3
theorem ozF_fz {T : List Int} {x : fS} : fz x.2 (ozF T x).2 := by
  have h1 := tkF_fz (T := T) (c := 90) (s := x.2) (by decide)
  have h2 := h1.trans (tkF_fz (T := T) (c := 122) (s := (tkF T 90 x.2).2) (by decide))
  unfold ozF
  split
  · exact h1
  · split
    · exact h2
    · split
      · rename_i h
        exact fz.on omF_fz ((h2.trans (ohF_fz (x := (x.1, (tkF T 122 (tkF T 90 x.2).2).2)) h)).trans (ndF_fz (T := T) (c := 58) (by decide)))
      · exact h2.trans flF_fz
theorem tfF_fz {T : List Int} {x : fS} : fz x.2 (tfF T x).2 := by
  have h1 : fz x.2 (ndF T 58 (tsF T x).2) := (tsF_fz (T := T) (x := x)).trans (ndF_fz (by decide))
  have h2 : fz x.2 (miF T ((tsF T x).1, ndF T 58 (tsF T x).2)).2 := fz.on miF_fz h1
  have h3 : fz x.2 (ndF T 58 (miF T ((tsF T x).1, ndF T 58 (tsF T x).2)).2) := h2.trans (ndF_fz (by decide))
  have h4 : fz x.2 (scF9 T ((miF T ((tsF T x).1, ndF T 58 (tsF T x).2)).1, ndF T 58 (miF T ((tsF T x).1, ndF T 58 (tsF T x).2)).2)).2 := fz.on scF9_fz h3
  have h5 : fz x.2 (tf2F T (miF T ((tsF T x).1, ndF T 58 (tsF T x).2))).2 := fz.on pdF_fz h4
  exact fz.on ozF_fz h5
/-- the letters of a duration by their ranks -/
def leC (k : Int) : Int := if k = 0 then 89 else if k = 1 then 77 else if k = 2 then 68 else if k = 3 then 72 else if k = 4 then 77 else 83
def leF (T : List Int) (la : Int) : Nat → Int → uS → Int × uS
  | 0, _, s => (-1, s)
  | n + 1, k, s => if la < k then (-1, s) else if lk T s = leC k then (k, (s.1 + 1, s.2)) else leF T la n (k + 1) s
/-- perhaps a part behind a number: whether there is one, its billionths -/
def dpF (T : List Int) (s : uS) : (Int × Int) × uS :=
  if (tkF T 46 s).1 = 1 then ((1, (ptF T (tkF T 46 s).2).1), (ptF T (tkF T 46 s).2).2)
  else if (tkF T 44 (tkF T 46 s).2).1 = 1 then ((1, (ptF T (tkF T 44 (tkF T 46 s).2).2).1), (ptF T (tkF T 44 (tkF T 46 s).2).2).2) else ((0, 0), (tkF T 44 (tkF T 46 s).2).2)
/-- a number with its letter: that letter's rank, whether nothing can come behind it -/
def sn3F (T : List Int) (fi la pl : Int) (q : Int × Int) (s : uS) : (Int × Int) × uS :=
  if 0 ≤ (leF T la 6 fi s).1 then (((leF T la 6 fi s).1, q.1), if (leF T la 6 fi s).1 < 2 ∧ q.2 ≠ 0 then blF pl (leF T la 6 fi s).2 else (leF T la 6 fi s).2)
  else ((la, q.1), flF (leF T la 6 fi s).2)
def sn2F (T : List Int) (fi la pl : Int) (p : (Int × Int) × uS) : (Int × Int) × uS :=
  if fi = 0 ∧ p.1.1 = 0 then (if (tkF T 87 p.2).1 = 1 then ((la, 1), (tkF T 87 p.2).2) else sn3F T fi la pl p.1 (tkF T 87 p.2).2) else sn3F T fi la pl p.1 p.2
def snF (T : List Int) (fi la : Int) (s : uS) : (Int × Int) × uS := sn2F T fi la (nbF T 1 9 0 0 s).2.1 (dpF T (nbF T 1 9 0 0 s).2)
def duR (T : List Int) : Nat → Int → Int → Int → Int → uS → Int × uS
  | 0, _, _, op, _, s => (op, s)
  | n + 1, rk, la, op, en, s => if en = 1 then (op, s) else if rk ≤ la ∧ 0 ≤ dgF T s then duR T n ((snF T rk la s).1.1 + 1) la 0 (snF T rk la s).1.2 (snF T rk la s).2 else if la = 2 then (if (tkF T 84 s).1 = 1 then duR T n 3 5 1 en (tkF T 84 s).2 else (op, (tkF T 84 s).2)) else (op, s)
def duF (T : List Int) (s : uS) : uS := if (duR T 7 0 2 1 0 (ndF T 80 s)).1 = 1 then flF (duR T 7 0 2 1 0 (ndF T 80 s)).2 else (duR T 7 0 2 1 0 (ndF T 80 s)).2
/-- the day that was told: the place to blame, or -1; the day -/
def tlF (f : fN) : Int := if f 4 = 1 then -f 5 else f 5
def dsB (f : fN) : Int :=
  if f 4 = 1 ∧ f 5 = 0 then f 2
  else if f 0 = 1 ∨ f 0 = 5 then (if f 7 < 1 ∨ wkI (tlF f) < f 7 then f 6 else if f 9 < 1 ∨ 7 < f 9 then f 8 else if -365961662 ≤ fwI (tlF f) + 7 * (f 7 - 1) + f 9 - 1 ∧ fwI (tlF f) + 7 * (f 7 - 1) + f 9 - 1 ≤ 364522971 then -1 else f 2)
  else if f 0 = 2 then (if 1 ≤ f 7 ∧ f 7 ≤ 365 + lpI (tlF f) then -1 else f 6)
  else if f 7 < 1 ∨ 12 < f 7 then f 6 else if 1 ≤ f 9 ∧ f 9 ≤ mlI (tlF f) (f 7) then -1 else f 8
def dsD (f : fN) : Int :=
  if f 0 = 1 ∨ f 0 = 5 then fwI (tlF f) + 7 * (f 7 - 1) + f 9 - 1
  else if f 0 = 2 then ysI (tlF f) + f 7 - 1 else nuI (tlF f) (f 7) (f 9)
def lsR (L : List Int) (u : Int) : Int := if u % 1440 = 1439 ∧ u / 1440 ∈ L then 60 else 59
/-- a time's: the place to blame, or -1; day: NONEI of a time alone -/
def otF (f : fN) : Int := if f 9 = 1 then -(f 11 * 60 + f 13) else f 11 * 60 + f 13
def lsF9 (L : List Int) (day : Int) (f : fN) : Int := if (f 11 ≤ 23 ∧ f 13 ≤ 59) ∧ day ≠ NONEI then lsR L (day * 1440 + f 1 * 60 + f 3 - otF f) else 59
def tsB (L : List Int) (day : Int) (f : fN) : Int :=
  if 24 < f 1 ∨ (f 1 = 24 ∧ (¬ (f 3 = 0 ∧ f 5 = 0 ∧ f 6 = 0) ∨ day = 364522971)) then f 0
  else if 59 < f 3 then f 2 else if lsF9 L day f < f 5 then f 4 else if 23 < f 11 then f 10 else if 59 < f 13 then f 12 else -1
def bl0F (p : Int) (s : uS) : uS := if 0 ≤ p then blF p s else s
/-- a day's and its time's numbers -/
def seF (L : List Int) (fd ft : fN) (s : uS) : uS := if s.2.1 = 0 ∧ s.2.2 < 0 then (if 0 ≤ dsB fd then blF (dsB fd) s else bl0F (tsB L (dsD fd) ft) s) else s
abbrev mS : Type := fN × fN × uS
def moF (T L : List Int) (x : mS) : mS :=
  let d := dtF T 1 (x.1, x.2.2)
  let t := tmF9 T (if d.1 1 = 1 then 1 else 2) (x.2.1, ndF T 84 d.2)
  (d.1, t.1, seF L d.1 t.1 t.2)
def smF (T L : List Int) (x : mS) : mS :=
  let d := dfF T (x.1, x.2.2)
  let s1 := if (tkF T 84 d.2).1 = 1 then (tkF T 84 d.2).2 else if (tkF T 116 (tkF T 84 d.2).2).1 = 1 then (tkF T 116 (tkF T 84 d.2).2).2 else ndF T 32 (tkF T 116 (tkF T 84 d.2).2).2
  let t := tfF T (x.2.1, s1)
  (d.1, t.1, seF L d.1 t.1 t.2)
def inF (T L : List Int) (x : mS) : mS :=
  if lk T x.2.2 = 80 then moF T L (x.1, x.2.1, ndF T 47 (duF T x.2.2))
  else
    let a := moF T L x
    let s1 := ndF T 47 a.2.2
    if lk T s1 = 80 then (a.1, a.2.1, duF T s1) else moF T L (a.1, a.2.1, s1)
def coF (T : List Int) (s : uS) : uS := ndF T 47 (if 0 ≤ dgF T (ndF T 82 s) then (nbF T 1 9 0 0 (ndF T 82 s)).2 else ndF T 82 s)
def rdF (T L : List Int) (fo : Int) (x : mS) : uS :=
  if fo = 0 then (smF T L x).2.2
  else if fo = 1 then (let d := dtF T 0 (x.1, x.2.2); if d.2.2.1 = 0 ∧ d.2.2.2 < 0 then bl0F (dsB d.1) d.2 else d.2)
  else if fo = 2 then (let t := tmF9 T 0 (x.2.1, (tkF T 84 x.2.2).2); bl0F (tsB L NONEI t.1) t.2)
  else if fo = 3 then (moF T L x).2.2
  else if fo = 4 then duF T x.2.2
  else if fo = 5 then (inF T L x).2.2
  else (inF T L (x.1, x.2.1, coF T x.2.2)).2.2
/-- what read() answers; the fields that were there don't count (to show) -/
def rdV (T L : List Int) (fo : Int) (fd ft : fN) : Int := vdF (neF T (rdF T L fo (fd, ft, (0, 0, -1))))

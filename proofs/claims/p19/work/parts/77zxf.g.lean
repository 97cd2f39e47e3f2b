/-! p19: the reference's reader as functions of got[] (of one part, by its words' places) and of at, fault, bad -/
abbrev gsS : Type := fN × uS
def nuG (T : List Int) (k n : Nat) (x : gsS) : gsS := (upF (upF x.1 (k + 1) x.2.1) k (dgG T n 0 x.2).1, (dgG T n 0 x.2).2)
def upS (k : Nat) (v : Int) (x : gsS) : gsS := (upF x.1 k v, x.2)
def ad1 (x : gsS) : gsS := (x.1, (x.2.1 + 1, x.2.2))
def clG (fo : Int) : fN := fun k => if k = 1 then -1 else if k = 0 then fo else 0
/-- a date -/
def sdI (T : List Int) (r : uS) : Int := if byI T r.1 = 43 ∨ byI T r.1 = 45 then 1 else 0
def ngI (T : List Int) (r : uS) : Int := if byI T r.1 = 45 then 1 else 0
def sgA (T : List Int) (r : uS) : uS := if sdI T r = 1 ∧ r.2.1 < 0 then (r.1 + 1, r.2) else r
def yqG (T : List Int) (r : uS) : Int × uS := if sdI T r = 1 then dgG T 6 0 (sgA T r) else dgG T 4 0 (sgA T r)
def yzG (a ng : Int) (y : Int × uS) : uS := if ng = 1 ∧ y.1 = 0 ∧ y.2.2.1 < 0 then bdG a y.2 else y.2
def yrG (T : List Int) (x : gsS) : gsS := (upF (upF (upF x.1 3 x.2.1) 2 (if ngI T x.2 = 1 then -(yqG T x.2).1 else (yqG T x.2).1)) 1 3, yzG x.2.1 (ngI T x.2) (yqG T x.2))
def wk1G (T : List Int) (x : gsS) : gsS := nuG T 4 2 (upF x.1 1 5, x.2)
def wk2G (T : List Int) (hd : Int) (x : gsS) : gsS := nuG T 6 1 (upF x.1 1 1, if hd = 1 then exG T 45 x.2 else x.2)
def wkG (T : List Int) (wh hd : Int) (x : gsS) : gsS := if ((wk1G T x).2.2.1 < 0 ∧ ((hd = 1 ∧ byI T (wk1G T x).2.1 = 45) ∨ (¬ hd = 1 ∧ isD (byI T (wk1G T x).2.1)))) ∨ wh = 1 then wk2G T hd (wk1G T x) else wk1G T x
def da1G (T : List Int) (x : gsS) : gsS := upS 1 4 (nuG T 4 2 x)
def da2G (T : List Int) (wh : Int) (y : gsS) : gsS :=
  if y.2.2.1 < 0 ∧ isD (byI T y.2.1) then (upF (upF y.1 4 (10 * y.1 4 + (dgG T 1 0 y.2).1)) 1 2, (dgG T 1 0 y.2).2)
  else if (tkG T 45 y.2).1 = 1 then nuG T 6 2 (upF y.1 1 0, (tkG T 45 y.2).2)
  else (y.1, if wh = 1 then flG (tkG T 45 y.2).2 else (tkG T 45 y.2).2)
def daG (T : List Int) (wh : Int) (x : gsS) : gsS := da2G T wh (da1G T x)
def pl1G (T : List Int) (x : gsS) : gsS := upS 1 2 (nuG T 4 3 x)
def pl2G (T : List Int) (y : gsS) : gsS :=
  if y.2.2.1 < 0 ∧ isD (byI T y.2.1) then (upF (upF (upF (upF y.1 1 0) 4 (y.1 4 / 10)) 7 (y.2.1 - 1)) 6 (y.1 4 % 10 * 10 + (dgG T 1 0 y.2).1), (dgG T 1 0 y.2).2) else y
def plG (T : List Int) (x : gsS) : gsS := pl2G T (pl1G T x)
/-- behind the year; hd: a dash was there, sd: the year had a sign -/
def beG (T : List Int) (wh hd sd : Int) (x : gsS) : gsS :=
  if x.2.2.1 < 0 then
    (if (hd = 1 ∨ sd = 0) ∧ byI T x.2.1 = 87 then wkG T wh hd (ad1 x) else if hd = 1 then daG T wh x
     else if sd = 0 ∧ isD (byI T x.2.1) then plG T x else (x.1, if wh = 1 then flG x.2 else x.2))
  else x
def hdG (T : List Int) (x : gsS) : Int := (tkG T 45 (yrG T x).2).1
def drG (T : List Int) (wh : Int) (x : gsS) : gsS := beG T wh (hdG T x) (sdI T x.2) ((yrG T x).1, (tkG T 45 (yrG T x).2).2)
/-- the digits of a part -/
def paL (T : List Int) : Nat → Int → Int → uS → (Int × Int) × uS
  | 0, v, n, r => ((v, n), r)
  | k + 1, v, n, r => if r.2.1 < 0 ∧ isD (byI T r.1) then paL T k (if n < 9 then 10 * v + byI T r.1 - 48 else v) (n + 1) (r.1 + 1, r.2) else ((v, n), r)
def paG (T : List Int) (r : uS) : Int × uS := (tenF (9 - (paL T 120 0 0 r).1.2.toNat) (paL T 120 0 0 r).1.1, if (paL T 120 0 0 r).1.2 = 0 then flG (paL T 120 0 0 r).2 else (paL T 120 0 0 r).2)
/-- a time -/
def tm0G (T : List Int) (x : gsS) : gsS := nuG T 9 2 (upF (upF x.1 8 1) 15 0, x.2)
def tmiG (T : List Int) (x : gsS) : gsS := upS 15 1 (nuG T 11 2 (x.1, x.2))
def tseG (T : List Int) (x : gsS) : gsS := upS 15 2 (nuG T 13 2 (x.1, x.2))
def tm1G (T : List Int) (x : gsS) : gsS := if (tkG T 58 x.2).1 = 1 then tseG T (x.1, (tkG T 58 x.2).2) else (x.1, (tkG T 58 x.2).2)
def tm2G (T : List Int) (x : gsS) : gsS := if x.2.2.1 < 0 ∧ isD (byI T x.2.1) then tseG T x else x
def tmsG (T : List Int) (mo : Int) (x : gsS) : Int × gsS :=
  if (x.2.2.1 < 0 ∧ mo ≠ 2) ∧ byI T x.2.1 = 58 then (1, tm1G T (tmiG T (ad1 x)))
  else if (x.2.2.1 < 0 ∧ mo ≠ 1) ∧ isD (byI T x.2.1) then (2, tm2G T (tmiG T x)) else (mo, x)
def tp1G (T : List Int) (x : gsS) : gsS := (upF x.1 16 (paG T x.2).1, (paG T x.2).2)
def tpG (T : List Int) (x : gsS) : gsS := if x.2.2.1 < 0 ∧ (byI T x.2.1 = 46 ∨ byI T x.2.1 = 44) then tp1G T (ad1 x) else x
def tz1G (T : List Int) (x : gsS) : gsS := nuG T 18 2 (upF (upF x.1 22 (if byI T x.2.1 = 45 then 1 else 0)) 17 2, (x.2.1 + 1, x.2.2))
def tz2G (T : List Int) (wa : Int) (x : gsS) : gsS :=
  if (x.2.2.1 < 0 ∧ wa ≠ 2) ∧ byI T x.2.1 = 58 then nuG T 20 2 (ad1 x) else if (x.2.2.1 < 0 ∧ wa ≠ 1) ∧ isD (byI T x.2.1) then nuG T 20 2 (x.1, x.2) else x
def tz0G (T : List Int) (wa : Int) (x : gsS) : gsS := if x.2.2.1 < 0 ∧ (byI T x.2.1 = 43 ∨ byI T x.2.1 = 45) then tz2G T wa (tz1G T x) else x
def tzG (T : List Int) (wa : Int) (x : gsS) : gsS := if (tkG T 90 x.2).1 = 1 then (upF x.1 17 1, (tkG T 90 x.2).2) else tz0G T wa (x.1, (tkG T 90 x.2).2)
def trG (T : List Int) (mo : Int) (x : gsS) : gsS := tzG T (tmsG T mo (tm0G T x)).1 (tpG T (tmsG T mo (tm0G T x)).2)
/-- RFC 3339 -/
def exS (T : List Int) (c : Int) (x : gsS) : gsS := (x.1, exG T c x.2)
def rp1G (T : List Int) (x : gsS) : gsS := nuG T 6 2 (exS T 45 (nuG T 4 2 (exS T 45 (upF (upF (upF x.1 3 x.2.1) 2 (dgG T 4 0 x.2).1) 1 0, (dgG T 4 0 x.2).2))))
def sp1G (T : List Int) (r : uS) : uS := if r.2.1 < 0 ∧ ¬ byI T r.1 = 84 ∧ ¬ byI T r.1 = 116 ∧ ¬ byI T r.1 = 32 then flG r else r
def spG (T : List Int) (r : uS) : uS := if (sp1G T r).2.1 < 0 then ((sp1G T r).1 + 1, (sp1G T r).2) else sp1G T r
def rp2G (T : List Int) (x : gsS) : gsS := nuG T 13 2 (exS T 58 (nuG T 11 2 (exS T 58 (nuG T 9 2 (upF (upF x.1 8 1) 15 2, x.2)))))
def rp3G (T : List Int) (x : gsS) : gsS := if (tkG T 46 x.2).1 = 1 then tp1G T (x.1, (tkG T 46 x.2).2) else (x.1, (tkG T 46 x.2).2)
def rp4G (T : List Int) (x : gsS) : gsS :=
  if x.2.2.1 < 0 ∧ (byI T x.2.1 = 90 ∨ byI T x.2.1 = 122) then (upF x.1 17 1, (x.2.1 + 1, x.2.2))
  else if x.2.2.1 < 0 ∧ (byI T x.2.1 = 43 ∨ byI T x.2.1 = 45) then nuG T 20 2 (exS T 58 (tz1G T x)) else (x.1, flG x.2)
def rpS (T : List Int) (x : gsS) : gsS := (x.1, spG T x.2)
def rpG (T : List Int) (r : uS) : gsS := rp4G T (rp3G T (rp2G T (rpS T (rp1G T (clG 0, r)))))
def rbG (T : List Int) (r : uS) : gsS := trG T (if hdG T (clG 3, r) = 1 then 1 else 2) (exS T 84 (drG T 1 (clG 3, r)))
/-- a duration: the letter's place -/
def lpG (c tm : Int) : Int := if tm = 1 then (if c = 72 then 3 else if c = 77 then 4 else if c = 83 then 5 else -1) else if c = 89 then 0 else if c = 77 then 1 else if c = 68 then 2 else -1
/-- up to nine digits -/
def dcL (T : List Int) : Nat → Int → Int → uS → (Int × Int) × uS
  | 0, v, n, r => ((v, n), r)
  | k + 1, v, n, r => if isD (byI T r.1) then dcL T k (10 * v + byI T r.1 - 48) (n + 1) (r.1 + 1, r.2) else ((v, n), r)
/-- perhaps a part: where its separator is (-1: none) -/
def ddG (T : List Int) (x : gsS) : Int × gsS := if byI T x.2.1 = 46 ∨ byI T x.2.1 = 44 then (x.2.1, tp1G T (ad1 x)) else (-1, x)
/-- a number's letter: whether nothing comes behind it, its place -/
def dlG (T : List Int) (tm nx fi dot : Int) (x : gsS) : (Int × Int) × gsS :=
  if ¬ x.2.2.1 < 0 then ((1, 0), x)
  else if fi = 1 ∧ tm = 0 ∧ dot < 0 ∧ byI T x.2.1 = 87 then ((1, 0), ad1 x)
  else if lpG (byI T x.2.1) tm < nx then ((1, 0), (x.1, flG x.2))
  else if 0 ≤ dot then ((1, 0), (upF x.1 15 (lpG (byI T x.2.1) tm), if lpG (byI T x.2.1) tm < 2 ∧ x.1 16 ≠ 0 then bdG dot (x.2.1 + 1, x.2.2) else (x.2.1 + 1, x.2.2)))
  else ((0, lpG (byI T x.2.1) tm), ad1 x)
def dnG (T : List Int) (tm nx fi : Int) (x : gsS) : (Int × Int) × gsS :=
  if (dcL T 9 0 0 x.2).1.2 = 0 then ((1, 0), (x.1, flG (dcL T 9 0 0 x.2).2))
  else dlG T tm nx fi (ddG T (x.1, (dcL T 9 0 0 x.2).2)).1 (ddG T (x.1, (dcL T 9 0 0 x.2).2)).2
def duLG (T : List Int) : Nat → Int → Int → Int → gsS → gsS
  | 0, _, _, _, x => x
  | k + 1, tm, nx, fi, x =>
    if x.2.2.1 < 0 then
      (if (dnG T tm nx fi x).1.1 = 1 then (dnG T tm nx fi x).2
       else if tm = 0 ∧ byI T (dnG T tm nx fi x).2.2.1 = 84 then duLG T k 1 3 0 (ad1 (dnG T tm nx fi x).2)
       else if isD (byI T (dnG T tm nx fi x).2.2.1) ∧ (dnG T tm nx fi x).1.2 + 1 < (if tm = 1 then 6 else 3) then duLG T k tm ((dnG T tm nx fi x).1.2 + 1) 0 (dnG T tm nx fi x).2 else (dnG T tm nx fi x).2)
    else x
def du0G (T : List Int) (x : gsS) : gsS := if (tkG T 84 x.2).1 = 1 then duLG T 7 1 3 1 (x.1, (tkG T 84 x.2).2) else duLG T 7 0 0 1 (x.1, (tkG T 84 x.2).2)
def duG (T : List Int) (r : uS) : gsS := du0G T (upF (clG 4) 15 (-1), exG T 80 r)
/-- both parts -/
def inG (T : List Int) (r : uS) : fN × fN × uS :=
  if byI T r.1 = 80 then ((duG T r).1, (rbG T (exG T 47 (duG T r).2)).1, (rbG T (exG T 47 (duG T r).2)).2)
  else if (exG T 47 (rbG T r).2).2.1 < 0 ∧ byI T (exG T 47 (rbG T r).2).1 = 80 then ((rbG T r).1, (duG T (exG T 47 (rbG T r).2)).1, (duG T (exG T 47 (rbG T r).2)).2)
  else ((rbG T r).1, (rbG T (exG T 47 (rbG T r).2)).1, (rbG T (exG T 47 (rbG T r).2)).2)
/-- what is looked at behind: a date: the place of its fault, or -1; its day -/
def yOK (d : Int) : Prop := -365961662 ≤ d ∧ d ≤ 364522971
def ldD (g : fN) : Int :=
  if g 1 = 0 ∨ g 1 = 4 then nuI (g 2) (g 4) (if g 1 = 0 then g 6 else 1) else if g 1 = 2 then ysI (g 2) + g 4 - 1 else if g 1 = 3 then ysI (g 2)
  else fwI (g 2) + 7 * (g 4 - 1) + (if g 1 = 1 then g 6 - 1 else 0)
def ldP (g : fN) : Int :=
  if g 1 = 0 ∨ g 1 = 4 then (if ¬ (1 ≤ g 4 ∧ g 4 ≤ 12) then g 5 else if g 1 = 0 ∧ ¬ (1 ≤ g 6 ∧ g 6 ≤ mlI (g 2) (g 4)) then g 7 else -1)
  else if g 1 = 2 then (if ¬ (1 ≤ g 4 ∧ g 4 ≤ 365 + lpI (g 2)) then g 5 else -1)
  else if g 1 = 3 then -1
  else if ¬ (1 ≤ g 4 ∧ g 4 ≤ wkI (g 2)) then g 5 else if g 1 = 1 ∧ ¬ (1 ≤ g 6 ∧ g 6 ≤ 7) then g 7 else -1
def ldB (g : fN) : Int := if g 1 < 0 then -1 else if 0 ≤ ldP g then ldP g else if -365961662 ≤ ldD g ∧ ldD g ≤ 364522971 then -1 else g 3
def ldH (g : fN) : Int := if g 1 < 0 then 0 else if 0 ≤ ldP g then 0 else if -365961662 ≤ ldD g ∧ ldD g ≤ 364522971 then 1 else 0
def mnI (p b : Int) : Int := if p < b then p else b
def omI (p b : Int) : Int := if 0 ≤ p then mnI p b else b
/-- a time's -/
def oqF (g : fN) : Int := if g 17 = 2 then (if g 22 = 1 then -(60 * g 18 + g 20) else 60 * g 18 + g 20) else 0
abbrev ltLate (g : fN) (hd dy : Int) : Prop := (g 9 = 24 ∧ g 11 = 0 ∧ g 13 = 0 ∧ g 16 = 0) ∧ (g 1 < 0 ∨ (hd = 1 ∧ -365961662 ≤ dy + 1 ∧ dy + 1 ≤ 364522971))
abbrev ltSix (L : List Int) (g : fN) (hd dy : Int) : Prop := (hd = 1 ∧ (g 17 ≠ 2 ∨ (g 18 < 24 ∧ g 20 < 60)) ∧ g 9 < 24 ∧ g 11 < 60) ∧ (-365961662 * 1440 ≤ dy * 1440 + 60 * g 9 + g 11 - oqF g ∧ dy * 1440 + 60 * g 9 + g 11 - oqF g < 364522972 * 1440) ∧ lsR L (dy * 1440 + 60 * g 9 + g 11 - oqF g) = 60
def lt1 (g : fN) (hd dy b : Int) : Int := if g 9 < 24 ∨ ltLate g hd dy then b else mnI (g 10) b
def lt2 (g : fN) (b : Int) : Int := if 59 < g 11 then mnI (g 12) b else b
def lt3 (g : fN) (b : Int) : Int := if g 17 = 2 ∧ 23 < g 18 then mnI (g 19) b else b
def lt4 (g : fN) (b : Int) : Int := if g 17 = 2 ∧ 59 < g 20 then mnI (g 21) b else b
def lt5 (L : List Int) (g : fN) (hd dy b : Int) : Int := if 60 < g 13 ∨ (g 13 = 60 ∧ ¬ ltSix L g hd dy) then mnI (g 14) b else b
def ltB (L : List Int) (g : fN) (hd dy b : Int) : Int := if g 8 = 0 then b else lt5 L g hd dy (lt4 g (lt3 g (lt2 g (lt1 g hd dy b))))
/-- as the code goes -/
def lde (g : fN) (b : Int) : Int := if -365961662 ≤ ldD g ∧ ldD g ≤ 364522971 then b else mnI (g 3) b
def ldb (g : fN) (b : Int) : Int :=
  if g 1 < 0 then b
  else if g 1 = 0 ∨ g 1 = 4 then (if ¬ (1 ≤ g 4 ∧ g 4 ≤ 12) then mnI (g 5) b else if g 1 = 0 ∧ ¬ (1 ≤ g 6 ∧ g 6 ≤ mlI (g 2) (g 4)) then mnI (g 7) b else lde g b)
  else if g 1 = 2 then (if ¬ (1 ≤ g 4 ∧ g 4 ≤ 365 + lpI (g 2)) then mnI (g 5) b else lde g b)
  else if g 1 = 3 then lde g b
  else if ¬ (1 ≤ g 4 ∧ g 4 ≤ wkI (g 2)) then mnI (g 5) b else if g 1 = 1 ∧ ¬ (1 ≤ g 6 ∧ g 6 ≤ 7) then mnI (g 7) b else lde g b
def ldh (g : fN) : Int := if -365961662 ≤ ldD g ∧ ldD g ≤ 364522971 then 1 else 0
def ldHx (g : fN) : Int :=
  if g 1 < 0 then 0
  else if g 1 = 0 ∨ g 1 = 4 then (if ¬ (1 ≤ g 4 ∧ g 4 ≤ 12) then 0 else if g 1 = 0 ∧ ¬ (1 ≤ g 6 ∧ g 6 ≤ mlI (g 2) (g 4)) then 0 else ldh g)
  else if g 1 = 2 then (if ¬ (1 ≤ g 4 ∧ g 4 ≤ 365 + lpI (g 2)) then 0 else ldh g)
  else if g 1 = 3 then ldh g
  else if ¬ (1 ≤ g 4 ∧ g 4 ≤ wkI (g 2)) then 0 else if g 1 = 1 ∧ ¬ (1 ≤ g 6 ∧ g 6 ≤ 7) then 0 else ldh g
/-- all that is looked at of a part -/
def lkB (L : List Int) (g : fN) (b : Int) : Int := if g 0 = 4 then b else ltB L g (ldHx g) (ldD g) (ldb g b)
/-- the verdict -/
def rcG (T : List Int) (r : uS) : uS := exG T 47 (if (exG T 82 r).2.1 < 0 then (dcL T 9 0 0 (exG T 82 r)).2 else exG T 82 r)
def endG (T : List Int) (r : uS) : uS := if r.2.1 < 0 ∧ r.1 < (T.length : Int) then flG r else r
def vfG (r : uS) (b : Int) : Int := if 0 ≤ r.2.1 then r.2.1 else if b < 1000 then b else NONEI
def v1G (T L : List Int) (x : gsS) : Int := vfG (endG T x.2) (lkB L x.1 x.2.2.2)
def v2G (T L : List Int) (x : fN × fN × uS) : Int := vfG (endG T x.2.2) (lkB L x.2.1 (lkB L x.1 x.2.2.2.2))
def r0S : uS := (0, -1, 1000)
/-- the reference's read() -/
def rdG (T L : List Int) (fo : Int) (g0 g1 : fN) : Int :=
  if fo = 0 then v1G T L (rpG T r0S)
  else if fo = 1 then v1G T L (drG T 0 (clG 1, r0S))
  else if fo = 2 then v1G T L (trG T 0 (clG 2, (tkG T 84 r0S).2))
  else if fo = 3 then v1G T L (rbG T r0S)
  else if fo = 4 then v1G T L (duG T r0S)
  else if fo = 5 then v2G T L (inG T r0S)
  else if (rcG T r0S).2.1 < 0 then v2G T L (inG T (rcG T r0S)) else v2G T L (g0, g1, rcG T r0S)

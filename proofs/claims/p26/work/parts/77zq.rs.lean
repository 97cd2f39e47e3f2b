/-! the reader of a rule, as functions: of the class (F, on at, broken, wrong), of the reference (G, on at, fault, bad) -/
abbrev uS : Type := Int × Int × Int
def byI (T : List Int) (a : Int) : Int := match T[a.toNat]? with
  | some c => c % 256
  | none => -1
def lk (T : List Int) (s : uS) : Int := if s.2.1 = 0 then byI T s.1 else -1
abbrev isD (c : Int) : Prop := 48 ≤ c ∧ c ≤ 57
abbrev isT (c : Int) : Prop := (65 ≤ c ∧ c ≤ 90) ∨ (97 ≤ c ∧ c ≤ 122)
abbrev isN (q c : Int) : Prop := isT c ∨ (q = 1 ∧ (isD c ∨ c = 43 ∨ c = 45))
def dgF (T : List Int) (s : uS) : Int := if isD (lk T s) then lk T s - 48 else -1
def tkF (T : List Int) (c : Int) (s : uS) : Int × uS := if lk T s = c then (1, (s.1 + 1, s.2)) else (0, s)
def flF (s : uS) : uS := (s.1, 1, s.2.2)
def ndF (T : List Int) (c : Int) (s : uS) : uS := if lk T s = c then (s.1 + 1, s.2) else flF s
def blF (p : Int) (s : uS) : uS := if s.2.2 < 0 then (s.1, s.2.1, p) else s
def nbF (T : List Int) (least : Int) : Nat → Int → Int → uS → Int × uS
  | 0, _, v, s => (v, s)
  | n + 1, i, v, s => if dgF T s < 0 then (v, (s.1, (if s.2.1 ≠ 0 ∨ i < least then 1 else 0), s.2.2)) else nbF T least n (i + 1) (v * 10 + dgF T s) (s.1 + 1, s.2)
def niF (T : List Int) (ld : Int) (md : Nat) (lo hi : Int) (s : uS) : Int × uS :=
  ((nbF T ld md 0 0 s).1, if (nbF T ld md 0 0 s).1 < lo ∨ hi < (nbF T ld md 0 0 s).1 then blF s.1 (nbF T ld md 0 0 s).2 else (nbF T ld md 0 0 s).2)
def ckF (T : List Int) (most : Int) (s : uS) : Int × uS :=
  if (tkF T 58 (niF T 1 2 0 most s).2).1 = 1 then (60 * (niF T 1 2 0 most s).1 + (niF T 2 2 0 59 (tkF T 58 (niF T 1 2 0 most s).2).2).1, (niF T 2 2 0 59 (tkF T 58 (niF T 1 2 0 most s).2).2).2) else (60 * (niF T 1 2 0 most s).1, (tkF T 58 (niF T 1 2 0 most s).2).2)
def nlF (T : List Int) (q : Int) : Nat → Int → uS → Int × uS
  | 0, k, s => (k, s)
  | n + 1, k, s => if isN q (lk T s) then nlF T q n (k + 1) (s.1 + 1, s.2) else (k, s)
def f3F (x : Int × uS) : uS := if x.1 < 3 then flF x.2 else x.2
def nameF (T : List Int) (s : uS) : uS :=
  if (tkF T 60 s).1 = 1 then ndF T 62 (f3F (nlF T 1 8 0 (tkF T 60 s).2)) else f3F (nlF T 0 8 0 (tkF T 60 s).2)
def sgnF (T : List Int) (s : uS) : Int × uS := if (tkF T 45 s).1 = 1 then (-1, (tkF T 45 s).2) else (1, (tkF T 43 (tkF T 45 s).2).2)
def stF (T : List Int) (most : Int) (s : uS) : Int × uS := (-((sgnF T s).1 * (ckF T most (sgnF T s).2).1), (ckF T most (sgnF T s).2).2)
def secF (T : List Int) (h0 first : Int) (s : uS) : Int × uS :=
  if lk T s = 43 ∨ lk T s = 45 ∨ 0 ≤ dgF T s then stF T 23 s else (first + 60, if 1439 < first + 60 then blF h0 s else s)
/-- kind, number, week, weekday, minute -/
abbrev rD : Type := Int × Int × Int × Int × Int
def dMF (T : List Int) (s : uS) : rD × uS :=
  let a := niF T 1 2 1 12 s
  let b := niF T 1 1 1 5 (ndF T 46 a.2)
  let c := niF T 1 1 0 6 (ndF T 46 b.2)
  ((0, a.1, b.1, c.1, 120), c.2)
def dKF (T : List Int) (s : uS) : rD × uS :=
  if (tkF T 77 s).1 = 1 then dMF T (tkF T 77 s).2
  else if (tkF T 74 (tkF T 77 s).2).1 = 1 then ((1, (niF T 1 3 1 365 (tkF T 74 (tkF T 77 s).2).2).1, 0, 0, 120), (niF T 1 3 1 365 (tkF T 74 (tkF T 77 s).2).2).2)
  else ((2, (niF T 1 3 0 365 (tkF T 74 (tkF T 77 s).2).2).1, 0, 0, 120), (niF T 1 3 0 365 (tkF T 74 (tkF T 77 s).2).2).2)
def rdMin (d : rD) (m : Int) : rD := (d.1, d.2.1, d.2.2.1, d.2.2.2.1, m)
def dateF (T : List Int) (s : uS) : rD × uS :=
  if (tkF T 47 (dKF T s).2).1 = 1 then (rdMin (dKF T s).1 (ckF T 24 (tkF T 47 (dKF T s).2).2).1, (ckF T 24 (tkF T 47 (dKF T s).2).2).2) else ((dKF T s).1, (tkF T 47 (dKF T s).2).2)
def neF (T : List Int) (s : uS) : uS := if s.2.1 = 0 ∧ (T.length : Int) ≤ s.1 then s else flF s
/-- names, first, second, from, to -/
abbrev rU : Type := Int × Int × Int × rD × rD
def ru2F (T : List Int) (h0 first : Int) (s : uS) : rU × uS :=
  let x := secF T h0 first (nameF T s)
  let d := dateF T (ndF T 44 x.2)
  let e := dateF T (ndF T 44 d.2)
  ((2, first, x.1, d.1, e.1), neF T e.2)
def rD0 : rD := (0, 0, 0, 0, 0)
def ruF (T : List Int) : rU × uS :=
  let g := sgnF T (nameF T (0, 0, -1))
  let c := ckF T 23 g.2
  if c.2.2.1 = 0 ∧ (T.length : Int) ≤ c.2.1 then ((1, -(g.1 * c.1), -(g.1 * c.1), rD0, rD0), c.2) else ru2F T g.2.1 (-(g.1 * c.1)) c.2
def NONEI : Int := -9223372036854775808
def vdF (s : uS) : Int := if s.2.1 ≠ 0 then s.1 else if s.2.2 < 0 then NONEI else s.2.2
/-! the reference -/
def tkG (T : List Int) (c : Int) (r : uS) : Int × uS := if r.2.1 < 0 ∧ byI T r.1 = c then (1, (r.1 + 1, r.2)) else (0, r)
def flG (r : uS) : uS := (r.1, (if r.2.1 < 0 then r.1 else r.2.1), r.2.2)
def exG (T : List Int) (c : Int) (r : uS) : uS := if r.2.1 < 0 then (if (tkG T c r).1 = 1 then (tkG T c r).2 else flG (tkG T c r).2) else r
def bdG (p : Int) (r : uS) : uS := (r.1, r.2.1, if p < r.2.2 then p else r.2.2)
def dgG (T : List Int) : Nat → Int → uS → Int × uS
  | 0, v, r => (v, r)
  | n + 1, v, r => if r.2.1 < 0 then (if isD (byI T r.1) then dgG T n (10 * v + byI T r.1 - 48) (r.1 + 1, r.2) else dgG T n v (flG r)) else (v, r)
def nlG (T : List Int) (q : Int) : Nat → Int → uS → Int × uS
  | 0, k, r => (k, r)
  | n + 1, k, r => if isN q (byI T r.1) then nlG T q n (k + 1) (r.1 + 1, r.2) else (k, r)
def f3G (x : Int × uS) : uS := if x.1 < 3 then flG x.2 else x.2
def nameG (T : List Int) (r : uS) : uS := if (tkG T 60 r).1 = 1 then exG T 62 (f3G (nlG T 1 8 0 (tkG T 60 r).2)) else f3G (nlG T 0 8 0 (tkG T 60 r).2)
def sgG (T : List Int) (sg : Int) (r : uS) : Int × uS := ((if sg = 1 ∧ byI T r.1 = 45 then 1 else 0), if sg = 1 ∧ r.2.1 < 0 ∧ (byI T r.1 = 43 ∨ byI T r.1 = 45) then (r.1 + 1, r.2) else r)
def hrG (T : List Int) (most : Int) (r : uS) : Int × uS :=
  let x := dgG T 1 0 r
  let y : Int × uS := if x.2.2.1 < 0 ∧ isD (byI T x.2.1) then (10 * x.1 + (dgG T 1 0 x.2).1, (dgG T 1 0 x.2).2) else x
  (y.1, if y.2.2.1 < 0 ∧ most < y.1 then bdG r.1 y.2 else y.2)
def mnG (T : List Int) (r : uS) : Int × uS :=
  let m := dgG T 2 0 r
  (m.1, if m.2.2.1 < 0 ∧ 59 < m.1 then bdG r.1 m.2 else m.2)
def ctG (T : List Int) (most : Int) (r : uS) : Int × uS :=
  let y := hrG T most r
  if (tkG T 58 y.2).1 = 1 then (60 * y.1 + (mnG T (tkG T 58 y.2).2).1, (mnG T (tkG T 58 y.2).2).2) else (60 * y.1 + 0, (tkG T 58 y.2).2)
/-- value, and where the hours were -/
def tmG (T : List Int) (sg most : Int) (r : uS) : (Int × Int) × uS :=
  let a := sgG T sg r
  let c := ctG T most a.2
  ((if a.1 = 1 then -c.1 else c.1, a.2.1), c.2)
def utL (T : List Int) : Nat → Int → uS → Int × uS
  | 0, v, r => (v, r)
  | n + 1, v, r => if r.2.1 < 0 ∧ isD (byI T r.1) then utL T n (10 * v + (dgG T 1 0 r).1) (dgG T 1 0 r).2 else (v, r)
def utG (T : List Int) (most : Nat) (lo hi : Int) (r : uS) : Int × uS :=
  let x := dgG T 1 0 r
  let y := utL T (most - 1) x.1 x.2
  (y.1, if y.2.2.1 < 0 ∧ ¬ (lo ≤ y.1 ∧ y.1 ≤ hi) then bdG r.1 y.2 else y.2)
def dMG (T : List Int) (r : uS) : rD × uS :=
  let a := utG T 2 1 12 r
  let b := utG T 1 1 5 (exG T 46 a.2)
  let c := utG T 1 0 6 (exG T 46 b.2)
  ((0, a.1, b.1, c.1, 120), c.2)
def dKG (T : List Int) (r : uS) : rD × uS :=
  if (tkG T 77 r).1 = 1 then dMG T (tkG T 77 r).2
  else if (tkG T 74 (tkG T 77 r).2).1 = 1 then ((1, (utG T 3 1 365 (tkG T 74 (tkG T 77 r).2).2).1, 0, 0, 120), (utG T 3 1 365 (tkG T 74 (tkG T 77 r).2).2).2)
  else ((2, (utG T 3 0 365 (tkG T 74 (tkG T 77 r).2).2).1, 0, 0, 120), (utG T 3 0 365 (tkG T 74 (tkG T 77 r).2).2).2)
def dateG (T : List Int) (r : uS) : rD × uS :=
  if (tkG T 47 (dKG T r).2).1 = 1 then (rdMin (dKG T r).1 (tmG T 0 24 (tkG T 47 (dKG T r).2).2).1.1, (tmG T 0 24 (tkG T 47 (dKG T r).2).2).2) else ((dKG T r).1, (tkG T 47 (dKG T r).2).2)
abbrev oInG (o : Int) : Prop := -1439 ≤ o ∧ o ≤ 1439
def secG (T : List Int) (h0 one : Int) (r : uS) : Int × uS :=
  if r.2.1 < 0 ∧ byI T r.1 ≠ 44 then (-(tmG T 1 23 r).1.1, (tmG T 1 23 r).2) else (one + 60, if r.2.1 < 0 ∧ r.2.2 = 1000 ∧ ¬ oInG (one + 60) then bdG h0 r else r)
def neG (T : List Int) (r : uS) : uS := if r.2.1 < 0 ∧ r.1 < (T.length : Int) then flG r else r
def n1G (T : List Int) (r : uS) : uS := nameG T (if ¬ isT (byI T r.1) ∧ byI T r.1 ≠ 60 then flG r else r)
def ru2G (T : List Int) (h0 one : Int) (r : uS) : rU × uS :=
  let x := secG T h0 one (n1G T r)
  let d := dateG T (exG T 44 x.2)
  let e := dateG T (exG T 44 d.2)
  ((2, one, x.1, d.1, e.1), neG T e.2)
def ruG (T : List Int) : rU × uS :=
  let t := tmG T 1 23 (nameG T (0, -1, 1000))
  if t.2.2.1 < 0 ∧ t.2.1 < (T.length : Int) then ru2G T t.1.2 (-t.1.1) t.2 else ((1, -t.1.1, 0, rD0, rD0), t.2)
def vdG (r : uS) : Int := if 0 ≤ r.2.1 then r.2.1 else if r.2.2 < 1000 then r.2.2 else NONEI
def RS (T : List Int) (s r : uS) : Prop := (s.2.1 = 0 ∧ r.1 = s.1 ∧ r.2.1 = -1 ∧ 0 ≤ s.1 ∧ s.1 ≤ (T.length : Int) ∧ ((s.2.2 = -1 ∧ r.2.2 = 1000) ∨ (0 ≤ s.2.2 ∧ s.2.2 ≤ s.1 ∧ r.2.2 = s.2.2))) ∨ (s.2.1 = 1 ∧ r.2.1 = s.1 ∧ 0 ≤ s.1)
theorem byI_lt {T : List Int} {a : Int} (h0 : 0 ≤ a) (h : 0 ≤ byI T a) : a < (T.length : Int) := by
  unfold byI at h
  split at h
  · rename_i c hc
    have := (List.getElem?_eq_some_iff.mp hc).1
    omega
  · omega
theorem byI_bd (T : List Int) (a : Int) : -1 ≤ byI T a ∧ byI T a ≤ 255 := by
  unfold byI
  split <;> omega
theorem byI_end {T : List Int} {a : Int} (h : (T.length : Int) ≤ a) : byI T a = -1 := by
  unfold byI
  rw [List.getElem?_eq_none (by omega)]
theorem RS.fail {T : List Int} {s r : uS} (h : RS T s r) : RS T (flF s) (flG r) := by
  unfold RS flF flG at *
  right
  dsimp only
  rcases h with ⟨h1, h2, h3, h4, h5, -⟩ | ⟨h1, h2, h3⟩
  · rw [if_pos (by omega)]; omega
  · rw [if_neg (by omega)]; omega
theorem RS.adv {T : List Int} {s r : uS} (h : RS T s r) (h0 : s.2.1 = 0) (hl : s.1 < (T.length : Int)) : RS T (s.1 + 1, s.2) (r.1 + 1, r.2) := by
  unfold RS at *
  left
  dsimp only
  rcases h with ⟨h1, h2, h3, h4, h5, h6⟩ | ⟨h1, h2, h3⟩
  · omega
  · omega
theorem RS.take {T : List Int} {s r : uS} {c : Int} (h : RS T s r) (hc : 0 ≤ c) : (tkF T c s).1 = (tkG T c r).1 ∧ RS T (tkF T c s).2 (tkG T c r).2 := by
  unfold tkF tkG lk
  rcases h with ⟨h1, h2, h3, h4, h5, h6⟩ | ⟨h1, h2, h3⟩
  · rw [if_pos h1, h2]
    by_cases g : byI T s.1 = c
    · rw [if_pos g, if_pos ⟨by omega, g⟩]
      exact ⟨rfl, RS.adv (r := (s.1, r.2)) (Or.inl ⟨h1, rfl, h3, h4, h5, h6⟩) h1 (byI_lt h4 (by omega))⟩
    · rw [if_neg g, if_neg (fun q => g q.2)]
      exact ⟨rfl, Or.inl ⟨h1, h2, h3, h4, h5, h6⟩⟩
  · rw [if_neg (show ¬ s.2.1 = 0 by omega), if_neg (show ¬ (-1 : Int) = c by omega), if_neg (show ¬ (r.2.1 < 0 ∧ byI T r.1 = c) by omega)]
    exact ⟨rfl, Or.inr ⟨h1, h2, h3⟩⟩
theorem tkF_01 (T : List Int) (c : Int) (s : uS) : (tkF T c s).1 = 1 ∨ ((tkF T c s).1 = 0 ∧ (tkF T c s).2 = s) := by
  unfold tkF; split
  · exact Or.inl rfl
  · exact Or.inr ⟨rfl, rfl⟩
theorem RS.expect {T : List Int} {s r : uS} {c : Int} (h : RS T s r) (hc : 0 ≤ c) : RS T (ndF T c s) (exG T c r) := by
  have ht := h.take (c := c) hc
  unfold ndF exG
  unfold tkF at ht
  by_cases g : lk T s = c
  · rw [if_pos g] at ht ⊢
    have hr : r.2.1 < 0 := by
      rcases h with h | h
      · omega
      · unfold lk at g; rw [if_neg (by omega)] at g; omega
    rw [if_pos hr, if_pos ht.1.symm]
    exact ht.2
  · rw [if_neg g] at ht ⊢
    have e : (tkG T c r).1 = 0 := ht.1.symm
    have e2 : (tkG T c r).2 = r := by
      unfold tkG at e ⊢
      split at e
      · cases e
      · rename_i q; rw [if_neg q]
    split
    · rw [if_neg (by omega), e2]; exact h.fail
    · rename_i q
      rcases h with h | h
      · omega
      · exact Or.inr ⟨rfl, h.2⟩
theorem RS.bad {T : List Int} {s r : uS} {p : Int} (hT : T.length ≤ 120) (h : RS T s r) (hp : 0 ≤ p) (hps : p ≤ s.1) (hw : s.2.2 < 0 ∨ s.2.2 ≤ p) (hb : s.2.1 = 0) : RS T (blF p s) (bdG p r) := by
  unfold RS blF bdG at *
  rcases h with ⟨h1, h2, h3, h4, h5, h6⟩ | ⟨h1, h2, h3⟩
  · left
    rcases h6 with ⟨g1, g2⟩ | ⟨g1, g2, g3⟩
    · rw [if_pos (by omega)]; dsimp only; rw [if_pos (by omega)]; omega
    · rw [if_neg (by omega)]; dsimp only; rw [if_neg (by omega)]; omega
  · omega
theorem RS.blame1 {T : List Int} {s r : uS} {p : Int} (h : RS T s r) (hb : s.2.1 = 1) : RS T (blF p s) r := by
  unfold RS blF at *
  rcases h with ⟨h1, -⟩ | ⟨h1, h2, h3⟩
  · omega
  · right; split <;> (try dsimp only) <;> omega
theorem isD_nn {c : Int} (h : isD c) : 0 ≤ c := by unfold isD at h; omega
theorem dgF_lt {T : List Int} {s : uS} : dgF T s < 0 ↔ ¬ isD (lk T s) := by
  unfold dgF
  by_cases g : isD (lk T s)
  · rw [if_pos g]; have h := g; unfold isD at h; exact ⟨fun q => by omega, fun q => absurd g q⟩
  · rw [if_neg g]; exact ⟨fun _ => g, fun _ => by decide⟩
theorem dgF_ge {T : List Int} {s : uS} (h : isD (lk T s)) : dgF T s = lk T s - 48 := by unfold dgF; rw [if_pos h]
theorem lk_0 {T : List Int} {s : uS} (h : s.2.1 = 0) : lk T s = byI T s.1 := if_pos h
theorem lk_1 {T : List Int} {s : uS} (h : ¬ s.2.1 = 0) : lk T s = -1 := if_neg h
/-- nothing is read of a broken text -/
theorem nbF_1 {T : List Int} {ld i v : Int} {n : Nat} {s : uS} (h : s.2.1 = 1) : nbF T ld n i v s = (v, s) := by
  cases n with
  | zero => rfl
  | succ n =>
    show (if _ then _ else _) = _
    rw [if_pos (dgF_lt.mpr (by rw [lk_1 (by omega)]; unfold isD; omega)), if_pos (Or.inl (by omega))]
    obtain ⟨a, b, w⟩ := s
    have h : b = 1 := h
    rw [h]
theorem dgG_1 {T : List Int} {n : Nat} {v : Int} {r : uS} (h : 0 ≤ r.2.1) : dgG T n v r = (v, r) := by
  cases n with
  | zero => rfl
  | succ n => show (if _ then _ else _) = _; rw [if_neg (by omega)]
/-- digits of a number that has as many as it can: class's number(n, n) and reference's digits(n) -/
theorem RS.digits {T : List Int} {ld : Int} (n : Nat) : ∀ {i v : Int} {s r : uS}, RS T s r → i + n = ld → RS T (nbF T ld n i v s).2 (dgG T n v r).2 ∧ ((nbF T ld n i v s).2.2.1 = 0 → (nbF T ld n i v s).1 = (dgG T n v r).1 ∧ s.2.2 = (nbF T ld n i v s).2.2.2 ∧ s.1 ≤ (nbF T ld n i v s).2.1) := by
  induction n with
  | zero => intro i v s r h hi; exact ⟨h, fun _ => ⟨rfl, rfl, Int.le_refl _⟩⟩
  | succ n ih =>
    intro i v s r h hi
    by_cases hb : s.2.1 = 0
    · have hr : r.1 = s.1 ∧ r.2.1 < 0 := by rcases h with h | h <;> omega
      show RS T (if _ then _ else _ : Int × uS).2 (if _ then (if _ then _ else _) else _ : Int × uS).2 ∧ ((if _ then _ else _ : Int × uS).2.2.1 = 0 → (if _ then _ else _ : Int × uS).1 = (if _ then (if _ then _ else _) else _ : Int × uS).1 ∧ s.2.2 = (if _ then _ else _ : Int × uS).2.2.2 ∧ s.1 ≤ (if _ then _ else _ : Int × uS).2.1)
      rw [if_pos hr.2]
      by_cases g : isD (lk T s)
      · have g' := g
        rw [lk_0 hb, ← hr.1] at g'
        rw [if_neg (fun q => dgF_lt.mp q g), if_pos g', dgF_ge g, lk_0 hb, ← hr.1]
        have hlt : s.1 < (T.length : Int) := by
          rw [hr.1] at g'
          exact byI_lt (by rcases h with h | h <;> omega) (isD_nn g')
        have h' := h.adv hb hlt
        have := ih (i := i + 1) (v := 10 * v + byI T r.1 - 48) h' (by omega)
        rw [hr.1] at this ⊢
        rw [show v * 10 + (byI T s.1 - 48) = 10 * v + byI T s.1 - 48 by omega]
        refine ⟨this.1, fun q => ?_⟩
        obtain ⟨q1, q2, q3⟩ := this.2 q
        exact ⟨q1, q2, by have : s.1 + 1 ≤ _ := q3; omega⟩
      · have g' := g
        rw [lk_0 hb, ← hr.1] at g'
        have hf := h.fail
        rw [if_pos (dgF_lt.mpr g), if_neg g', dgG_1 (by rcases hf with hf | hf; exact absurd hf.1 (show ¬ (1 : Int) = 0 by decide); unfold flG at hf ⊢; dsimp only at hf ⊢; omega)]
        dsimp only
        rw [if_pos (Or.inr (by omega))]
        exact ⟨hf, fun q => absurd q (by decide)⟩
    · have h1 : s.2.1 = 1 := by rcases h with h | h <;> omega
      rw [nbF_1 h1, dgG_1 (by rcases h with h | h <;> omega)]
      exact ⟨h, fun q => absurd q hb⟩
theorem nbF_nn {T : List Int} {ld : Int} (n : Nat) : ∀ {i v : Int} {s : uS}, 0 ≤ v → 0 ≤ (nbF T ld n i v s).1 := by
  induction n with
  | zero => intro i v s h; exact h
  | succ n ih =>
    intro i v s h
    show 0 ≤ (if _ then _ else _ : Int × uS).1
    split
    · exact h
    · rename_i g
      exact ih (by omega)
theorem RS.opt {T : List Int} (n : Nat) : ∀ {i v : Int} {s r : uS}, RS T s r → 1 ≤ i → RS T (nbF T 1 n i v s).2 (utL T n v r).2 ∧ ((nbF T 1 n i v s).2.2.1 = 0 → (nbF T 1 n i v s).1 = (utL T n v r).1 ∧ s.2.2 = (nbF T 1 n i v s).2.2.2 ∧ s.1 ≤ (nbF T 1 n i v s).2.1) := by
  induction n with
  | zero => intro i v s r h hi; exact ⟨h, fun _ => ⟨rfl, rfl, Int.le_refl _⟩⟩
  | succ n ih =>
    intro i v s r h hi
    by_cases hb : s.2.1 = 0
    · have hr : r.1 = s.1 ∧ r.2.1 < 0 := by rcases h with h | h <;> omega
      show RS T (if _ then _ else _ : Int × uS).2 (if _ then _ else _ : Int × uS).2 ∧ ((if _ then _ else _ : Int × uS).2.2.1 = 0 → (if _ then _ else _ : Int × uS).1 = (if _ then _ else _ : Int × uS).1 ∧ s.2.2 = (if _ then _ else _ : Int × uS).2.2.2 ∧ s.1 ≤ (if _ then _ else _ : Int × uS).2.1)
      by_cases g : isD (lk T s)
      · have g' := g
        rw [lk_0 hb, ← hr.1] at g'
        have hlt : s.1 < (T.length : Int) := by
          have g'' := g'
          rw [hr.1] at g''
          exact byI_lt (by rcases h with h | h <;> omega) (isD_nn g'')
        have e : dgG T 1 0 r = (10 * 0 + byI T r.1 - 48, (r.1 + 1, r.2)) := by
          show (if _ then (if _ then _ else _) else _) = _
          rw [if_pos hr.2, if_pos g']
          rfl
        rw [if_neg (fun q => dgF_lt.mp q g), if_pos ⟨hr.2, g'⟩, e, dgF_ge g, lk_0 hb, ← hr.1]
        have h' := h.adv hb hlt
        have := ih (i := i + 1) (v := 10 * v + (byI T r.1 - 48)) h' (by omega)
        rw [hr.1] at this ⊢
        dsimp only
        rw [show v * 10 + (byI T s.1 - 48) = 10 * v + (byI T s.1 - 48) by omega, show 10 * v + (10 * 0 + byI T s.1 - 48) = 10 * v + (byI T s.1 - 48) by omega]
        refine ⟨this.1, fun q => ?_⟩
        obtain ⟨q1, q2, q3⟩ := this.2 q
        exact ⟨q1, q2, by have : s.1 + 1 ≤ _ := q3; omega⟩
      · have g' := g
        rw [lk_0 hb, ← hr.1] at g'
        rw [if_pos (dgF_lt.mpr g), if_neg (show ¬ (r.2.1 < 0 ∧ isD (byI T r.1)) from fun q => g' q.2)]
        dsimp only
        rw [if_neg (by omega)]
        have e : ((s.1, 0, s.2.2) : uS) = s := by
          obtain ⟨a, b, w⟩ := s
          have hb : b = 0 := hb
          rw [hb]
        rw [e]
        exact ⟨h, fun _ => ⟨rfl, rfl, Int.le_refl _⟩⟩
    · have h1 : s.2.1 = 1 := by rcases h with h | h <;> omega
      have e : utL T (n + 1) v r = (v, r) := by
        show (if _ then _ else _) = _
        rw [if_neg (fun q => by rcases h with h | h <;> omega)]
      rw [nbF_1 h1, e]
      exact ⟨h, fun q => absurd q hb⟩
/-- a number, then its range -/
theorem RS.range {T : List Int} {s r : uS} {x y : Int × uS} {lo hi : Int} {P : Prop} [Decidable P] (hT : T.length ≤ 120) (h : RS T s r) (h1 : RS T x.2 y.2) (h2 : x.2.2.1 = 0 → x.1 = y.1 ∧ s.2.2 = x.2.2.2 ∧ s.1 ≤ x.2.1) (hs : x.2.2.1 = 0 → s.2.1 = 0) (hP : x.1 = y.1 → (P ↔ (x.1 < lo ∨ hi < x.1))) : RS T (if x.1 < lo ∨ hi < x.1 then blF s.1 x.2 else x.2) (if y.2.2.1 < 0 ∧ P then bdG r.1 y.2 else y.2) := by
  by_cases hb : x.2.2.1 = 0
  · obtain ⟨e1, e2, e3⟩ := h2 hb
    have hg : y.2.2.1 < 0 := by rcases h1 with h1 | h1 <;> omega
    have hr : r.1 = s.1 := by have := hs hb; rcases h with h | h <;> omega
    by_cases g : x.1 < lo ∨ hi < x.1
    · rw [if_pos g, if_pos ⟨hg, (hP e1).mpr g⟩, hr]
      have := hs hb
      exact h1.bad hT (by rcases h with h | h <;> omega) e3 (by rcases h with h | h <;> omega) hb
    · rw [if_neg g, if_neg (fun q => g ((hP e1).mp q.2))]
      exact h1
  · have hb1 : x.2.2.1 = 1 := by rcases h1 with h1 | h1 <;> omega
    have hg : ¬ y.2.2.1 < 0 := by rcases h1 with h1 | h1 <;> omega
    rw [if_neg (fun q : y.2.2.1 < 0 ∧ P => hg q.1)]
    split
    · exact h1.blame1 hb1
    · exact h1
theorem nbF_b {T : List Int} {ld : Int} (n : Nat) : ∀ {i v : Int} {s : uS}, (nbF T ld n i v s).2.2.1 = 0 → s.2.1 = 0 := by
  induction n with
  | zero => intro i v s h; exact h
  | succ n ih =>
    intro i v s h
    have h : (if _ then _ else _ : Int × uS).2.2.1 = 0 := h
    split at h
    · dsimp only at h
      split at h
      · cases h
      · rename_i q; omega
    · have := ih h; exact this
theorem RS.num {T : List Int} {s r : uS} (n : Nat) (h : RS T s r) : RS T (nbF T 1 (n + 1) 0 0 s).2 (utL T n (dgG T 1 0 r).1 (dgG T 1 0 r).2).2 ∧ ((nbF T 1 (n + 1) 0 0 s).2.2.1 = 0 → (nbF T 1 (n + 1) 0 0 s).1 = (utL T n (dgG T 1 0 r).1 (dgG T 1 0 r).2).1 ∧ s.2.2 = (nbF T 1 (n + 1) 0 0 s).2.2.2 ∧ s.1 ≤ (nbF T 1 (n + 1) 0 0 s).2.1) := by
  have hd := RS.digits (ld := 1) 1 (i := 0) (v := 0) h (by decide)
  have e0 : nbF T 1 (n + 1) 0 0 s = nbF T 1 n 1 (nbF T 1 1 0 0 s).1 (nbF T 1 1 0 0 s).2 ∨ (nbF T 1 1 0 0 s).2.2.1 ≠ 0 := by
    by_cases g : dgF T s < 0
    · right
      show (if _ then _ else _ : Int × uS).2.2.1 ≠ 0
      rw [if_pos g]
      dsimp only
      rw [if_pos (Or.inr (by decide))]
      decide
    · left
      show (if _ then _ else _) = nbF T 1 n 1 (if _ then _ else _ : Int × uS).1 (if _ then _ else _ : Int × uS).2
      rw [if_neg g, if_neg g]
      rfl
  have e1 : nbF T 1 (n + 1) 0 0 s = nbF T 1 n 1 (nbF T 1 1 0 0 s).1 (nbF T 1 1 0 0 s).2 := by
    rcases e0 with e0 | e0
    · exact e0
    · have g : dgF T s < 0 := by
        apply Decidable.byContradiction
        intro g
        apply e0
        show (if _ then _ else _ : Int × uS).2.2.1 = 0
        rw [if_neg g]
        show s.2.1 = 0
        apply Decidable.byContradiction
        intro q
        exact g (dgF_lt.mpr (by rw [lk_1 q]; unfold isD; omega))
      have e2 : ∀ m : Nat, nbF T 1 (m + 1) 0 0 s = (0, (s.1, 1, s.2.2)) := fun m => by
        show (if _ then _ else _) = _
        rw [if_pos g, if_pos (Or.inr (by decide))]
      rw [e2 n, e2 0, nbF_1 rfl]
  have ho := RS.opt n (i := 1) (v := (nbF T 1 1 0 0 s).1) hd.1 (by decide)
  rw [← e1] at ho
  by_cases hb : (nbF T 1 1 0 0 s).2.2.1 = 0
  · obtain ⟨q1, q2, q3⟩ := hd.2 hb
    rw [← q1]
    refine ⟨ho.1, fun q => ?_⟩
    obtain ⟨p1, p2, p3⟩ := ho.2 q
    exact ⟨p1, by rw [q2, p2], Int.le_trans q3 p3⟩
  · have hb1 : (nbF T 1 1 0 0 s).2.2.1 = 1 := by rcases hd.1 with g | g <;> omega
    have hg : ¬ (dgG T 1 0 r).2.2.1 < 0 := by rcases hd.1 with g | g <;> omega
    have eu : utL T n (dgG T 1 0 r).1 (dgG T 1 0 r).2 = ((dgG T 1 0 r).1, (dgG T 1 0 r).2) := by
      cases n with
      | zero => rfl
      | succ n => show (if _ then _ else _) = _; rw [if_neg (fun q => hg q.1)]
    rw [eu, e1, nbF_1 hb1]
    exact ⟨hd.1, fun q => absurd q hb⟩
theorem RS.upTo {T : List Int} {s r : uS} (n : Nat) (lo hi : Int) (hT : T.length ≤ 120) (h : RS T s r) : RS T (niF T 1 (n + 1) lo hi s).2 (utG T (n + 1) lo hi r).2 ∧ ((niF T 1 (n + 1) lo hi s).2.2.1 = 0 → (niF T 1 (n + 1) lo hi s).1 = (utG T (n + 1) lo hi r).1) := by
  have key := RS.num n h
  have hu : utG T (n + 1) lo hi r = ((utL T n (dgG T 1 0 r).1 (dgG T 1 0 r).2).1, if (utL T n (dgG T 1 0 r).1 (dgG T 1 0 r).2).2.2.1 < 0 ∧ ¬ (lo ≤ (utL T n (dgG T 1 0 r).1 (dgG T 1 0 r).2).1 ∧ (utL T n (dgG T 1 0 r).1 (dgG T 1 0 r).2).1 ≤ hi) then bdG r.1 (utL T n (dgG T 1 0 r).1 (dgG T 1 0 r).2).2 else (utL T n (dgG T 1 0 r).1 (dgG T 1 0 r).2).2) := rfl
  rw [hu]
  exact ⟨RS.range (P := ¬ (lo ≤ (utL T n (dgG T 1 0 r).1 (dgG T 1 0 r).2).1 ∧ (utL T n (dgG T 1 0 r).1 (dgG T 1 0 r).2).1 ≤ hi)) hT h key.1 key.2 (fun q => nbF_b _ q) (fun e => by rw [e]; omega), fun q => by
    refine (key.2 ?_).1
    have q : (if _ then _ else _ : uS).2.1 = 0 := q
    split at q
    · unfold blF at q; split at q <;> exact q
    · exact q⟩
theorem bl_b {p : Int} {x : uS} : (blF p x).2.1 = x.2.1 := by unfold blF; split <;> rfl
theorem niF_b {T : List Int} {ld : Int} {md : Nat} {lo hi : Int} {s : uS} (q : (niF T ld md lo hi s).2.2.1 = 0) : (nbF T ld md 0 0 s).2.2.1 = 0 := by
  have q : (if _ then _ else _ : uS).2.1 = 0 := q
  split at q
  · rw [bl_b] at q; exact q
  · exact q
theorem RS.hours {T : List Int} {s r : uS} (most : Int) (hT : T.length ≤ 120) (h : RS T s r) : RS T (niF T 1 2 0 most s).2 (hrG T most r).2 ∧ ((niF T 1 2 0 most s).2.2.1 = 0 → (niF T 1 2 0 most s).1 = (hrG T most r).1) := by
  have key := RS.num 1 h
  have hu : hrG T most r = ((utL T 1 (dgG T 1 0 r).1 (dgG T 1 0 r).2).1, if (utL T 1 (dgG T 1 0 r).1 (dgG T 1 0 r).2).2.2.1 < 0 ∧ most < (utL T 1 (dgG T 1 0 r).1 (dgG T 1 0 r).2).1 then bdG r.1 (utL T 1 (dgG T 1 0 r).1 (dgG T 1 0 r).2).2 else (utL T 1 (dgG T 1 0 r).1 (dgG T 1 0 r).2).2) := by
    have e : ∀ (v : Int) (q : uS), utL T 1 v q = if q.2.1 < 0 ∧ isD (byI T q.1) then (10 * v + (dgG T 1 0 q).1, (dgG T 1 0 q).2) else (v, q) := fun v q => rfl
    rw [e]; rfl
  rw [hu]
  refine ⟨RS.range (P := most < (utL T 1 (dgG T 1 0 r).1 (dgG T 1 0 r).2).1) hT h key.1 key.2 (fun q => nbF_b _ q) (fun e => ?_), fun q => (key.2 (niF_b q)).1⟩
  have := nbF_nn (T := T) (ld := 1) 2 (i := 0) (v := 0) (s := s) (by decide)
  rw [← e]; omega
theorem RS.mins {T : List Int} {s r : uS} (hT : T.length ≤ 120) (h : RS T s r) : RS T (niF T 2 2 0 59 s).2 (mnG T r).2 ∧ ((niF T 2 2 0 59 s).2.2.1 = 0 → (niF T 2 2 0 59 s).1 = (mnG T r).1) := by
  have key := RS.digits (ld := 2) 2 (i := 0) (v := 0) h (by decide)
  refine ⟨RS.range (P := 59 < (dgG T 2 0 r).1) hT h key.1 key.2 (fun q => nbF_b _ q) (fun e => ?_), fun q => (key.2 (niF_b q)).1⟩
  have := nbF_nn (T := T) (ld := 2) 2 (i := 0) (v := 0) (s := s) (by decide)
  rw [← e]; omega
theorem RS.b0 {T : List Int} {s r : uS} (h : RS T s r) : s.2.1 = 0 ↔ r.2.1 < 0 := by rcases h with h | h <;> omega
theorem tkF_b (T : List Int) (c : Int) (s : uS) : (tkF T c s).2.2.1 = s.2.1 := by unfold tkF; split <;> rfl
theorem RS.clock {T : List Int} {s r : uS} (most : Int) (hT : T.length ≤ 120) (h : RS T s r) : RS T (ckF T most s).2 (ctG T most r).2 ∧ ((ckF T most s).2.2.1 = 0 → (ckF T most s).1 = (ctG T most r).1) := by
  obtain ⟨h1, h2⟩ := RS.hours most hT h
  obtain ⟨t1, t2⟩ := h1.take (c := 58) (by decide)
  obtain ⟨m1, m2⟩ := RS.mins hT t2
  unfold ckF ctG
  dsimp only
  rw [← t1]
  by_cases g : (tkF T 58 (niF T 1 2 0 most s).2).1 = 1
  · rw [if_pos g, if_pos g]
    refine ⟨m1, fun q => ?_⟩
    have e := m2 q
    have q1 := nbF_b _ (niF_b q)
    rw [tkF_b] at q1
    dsimp only
    rw [e, h2 q1]
  · rw [if_neg g, if_neg g]
    refine ⟨t2, fun q => ?_⟩
    have q : (tkF T 58 (niF T 1 2 0 most s).2).2.2.1 = 0 := q
    rw [tkF_b] at q
    dsimp only
    rw [h2 q]; omega
theorem nlF_1 {T : List Int} {q k : Int} {n : Nat} {s : uS} (h : s.2.1 = 1) : nlF T q n k s = (k, s) := by
  cases n with
  | zero => rfl
  | succ n =>
    show (if _ then _ else _) = _
    rw [if_neg (by rw [lk_1 (by omega)]; unfold isN isT isD; omega)]
theorem nlG_b {T : List Int} {q : Int} (n : Nat) : ∀ {k : Int} {r : uS}, (nlG T q n k r).2.2 = r.2 := by
  induction n with
  | zero => intro k r; rfl
  | succ n ih =>
    intro k r
    show (if _ then _ else _ : Int × uS).2.2 = _
    split
    · rw [ih]
    · rfl
theorem isN_nn {q c : Int} (h : isN q c) : 0 ≤ c := by unfold isN isT isD at h; omega
theorem RS.letters {T : List Int} {q : Int} (n : Nat) : ∀ {k : Int} {s r : uS}, RS T s r → s.2.1 = 0 → RS T (nlF T q n k s).2 (nlG T q n k r).2 ∧ (nlF T q n k s).1 = (nlG T q n k r).1 := by
  induction n with
  | zero => intro k s r h hb; exact ⟨h, rfl⟩
  | succ n ih =>
    intro k s r h hb
    have hr : r.1 = s.1 := by rcases h with h | h <;> omega
    show RS T (if _ then _ else _ : Int × uS).2 (if _ then _ else _ : Int × uS).2 ∧ (if _ then _ else _ : Int × uS).1 = (if _ then _ else _ : Int × uS).1
    rw [lk_0 hb, hr]
    by_cases g : isN q (byI T s.1)
    · rw [if_pos g, if_pos g, ← hr]
      rw [hr]
      have h' := h.adv hb (byI_lt (by rcases h with h | h <;> omega) (isN_nn g))
      rw [hr] at h'
      exact ih h' hb
    · rw [if_neg g, if_neg g]
      exact ⟨h, rfl⟩
theorem RS.any {T : List Int} {s r r' : uS} (h : RS T s r) (hb : s.2.1 = 1) (e : r'.2.1 = r.2.1) : RS T s r' := by
  rcases h with h | h
  · omega
  · exact Or.inr ⟨h.1, by rw [e]; exact h.2.1, h.2.2⟩
theorem flF_1 {s : uS} (h : s.2.1 = 1) : flF s = s := by
  obtain ⟨a, b, w⟩ := s
  have h : b = 1 := h
  rw [h]; rfl
theorem flG_1 {r : uS} (h : 0 ≤ r.2.1) : flG r = r := by
  obtain ⟨a, b, w⟩ := r
  have h : 0 ≤ b := h
  unfold flG
  dsimp only
  rw [if_neg (by omega)]
theorem RS.three {T : List Int} {x y : Int × uS} (h : RS T x.2 y.2) (e : x.1 = y.1) : RS T (f3F x) (f3G y) := by
  unfold f3F f3G
  rw [e]
  split
  · exact h.fail
  · exact h
theorem RS.name {T : List Int} {s r : uS} (h : RS T s r) : RS T (nameF T s) (nameG T r) := by
  obtain ⟨t1, t2⟩ := h.take (c := 60) (by decide)
  unfold nameF nameG
  rw [← t1]
  by_cases hb : s.2.1 = 0
  · have hb' : (tkF T 60 s).2.2.1 = 0 := by rw [tkF_b]; exact hb
    by_cases g : (tkF T 60 s).1 = 1
    · rw [if_pos g, if_pos g]
      have hl := RS.letters (q := 1) 8 (k := 0) t2 hb'
      exact (RS.three hl.1 hl.2).expect (by decide)
    · rw [if_neg g, if_neg g]
      have hl := RS.letters (q := 0) 8 (k := 0) t2 hb'
      exact RS.three hl.1 hl.2
  · have hb1 : s.2.1 = 1 := by rcases h with h | h <;> omega
    have e : tkF T 60 s = (0, s) := by unfold tkF; rw [if_neg (by rw [lk_1 hb]; decide)]
    have hr : 0 ≤ r.2.1 := by rcases h with h | h <;> omega
    have e2 : tkG T 60 r = (0, r) := by unfold tkG; rw [if_neg (by omega)]
    rw [if_neg (by rw [e]; show ¬ (0 : Int) = 1; decide), if_neg (by rw [e]; show ¬ (0 : Int) = 1; decide), e, e2]
    dsimp only
    rw [nlF_1 hb1]
    have e3 : f3F (0, s) = s := by unfold f3F; dsimp only; rw [if_pos (by decide), flF_1 hb1]
    rw [e3]
    refine h.any hb1 ?_
    have e4 := nlG_b (T := T) (q := 0) 8 (k := 0) (r := r)
    unfold f3G
    split
    · rw [flG_1 (by rw [e4]; exact hr), e4]
    · rw [e4]
/-- at never goes back -/
theorem tkF_mo (T : List Int) (c : Int) (s : uS) : s.1 ≤ (tkF T c s).2.1 := by unfold tkF; split <;> (dsimp only; omega)
theorem blF_at (p : Int) (s : uS) : (blF p s).1 = s.1 := by unfold blF; split <;> rfl
theorem nbF_mo {T : List Int} {ld : Int} (n : Nat) : ∀ {i v : Int} {s : uS}, s.1 ≤ (nbF T ld n i v s).2.1 := by
  induction n with
  | zero => intro i v s; exact Int.le_refl _
  | succ n ih =>
    intro i v s
    show s.1 ≤ (if _ then _ else _ : Int × uS).2.1
    split
    · exact Int.le_refl _
    · have : s.1 + 1 ≤ _ := ih (i := i + 1) (v := v * 10 + dgF T s) (s := (s.1 + 1, s.2)); omega
theorem niF_at {T : List Int} {ld : Int} {md : Nat} {lo hi : Int} {s : uS} : (niF T ld md lo hi s).2.1 = (nbF T ld md 0 0 s).2.1 := by
  show (if _ then _ else _ : uS).1 = _
  split
  · exact blF_at _ _
  · rfl
theorem niF_mo {T : List Int} {ld : Int} {md : Nat} {lo hi : Int} {s : uS} : s.1 ≤ (niF T ld md lo hi s).2.1 := by rw [niF_at]; exact nbF_mo _
theorem ckF_mo {T : List Int} {most : Int} {s : uS} : s.1 ≤ (ckF T most s).2.1 := by
  unfold ckF
  have h1 := niF_mo (T := T) (ld := 1) (md := 2) (lo := 0) (hi := most) (s := s)
  have h2 := tkF_mo T 58 (niF T 1 2 0 most s).2
  have h3 := niF_mo (T := T) (ld := 2) (md := 2) (lo := 0) (hi := 59) (s := (tkF T 58 (niF T 1 2 0 most s).2).2)
  split <;> (dsimp only; omega)
theorem nlF_mo {T : List Int} {q : Int} (n : Nat) : ∀ {k : Int} {s : uS}, s.1 ≤ (nlF T q n k s).2.1 := by
  induction n with
  | zero => intro k s; exact Int.le_refl _
  | succ n ih =>
    intro k s
    show s.1 ≤ (if _ then _ else _ : Int × uS).2.1
    split
    · have : s.1 + 1 ≤ _ := ih (k := k + 1) (s := (s.1 + 1, s.2)); omega
    · exact Int.le_refl _
theorem f3F_at (x : Int × uS) : (f3F x).1 = x.2.1 := by unfold f3F; split <;> rfl
theorem ndF_mo (T : List Int) (c : Int) (s : uS) : s.1 ≤ (ndF T c s).1 := by unfold ndF flF; split <;> (dsimp only; omega)
theorem nameF_mo (T : List Int) (s : uS) : s.1 ≤ (nameF T s).1 := by
  unfold nameF
  have h1 := tkF_mo T 60 s
  have h2 := nlF_mo (T := T) (q := 1) 8 (k := 0) (s := (tkF T 60 s).2)
  have h3 := nlF_mo (T := T) (q := 0) 8 (k := 0) (s := (tkF T 60 s).2)
  split
  · have h4 := ndF_mo T 62 (f3F (nlF T 1 8 0 (tkF T 60 s).2))
    rw [f3F_at] at h4
    omega
  · rw [f3F_at]; omega
/-- a broken text stays where it is -/
def fz (s t : uS) : Prop := s.2.1 = 1 → t.1 = s.1 ∧ t.2.1 = 1
theorem fz.trans {s t u : uS} (h : fz s t) (g : fz t u) : fz s u := fun q => by
  obtain ⟨a, b⟩ := h q
  obtain ⟨c, d⟩ := g b
  exact ⟨c.trans a, d⟩
theorem fz.rfl' {s : uS} : fz s s := fun q => ⟨rfl, q⟩
theorem tkF_fz {T : List Int} {c : Int} {s : uS} (hc : 0 ≤ c) : fz s (tkF T c s).2 := fun q => by
  unfold tkF; rw [if_neg (by rw [lk_1 (by omega)]; omega)]; exact ⟨rfl, q⟩
theorem flF_fz {s : uS} : fz s (flF s) := fun _ => ⟨rfl, rfl⟩
theorem ndF_fz {T : List Int} {c : Int} {s : uS} (hc : 0 ≤ c) : fz s (ndF T c s) := fun q => by
  unfold ndF; rw [if_neg (by rw [lk_1 (by omega)]; omega)]; exact ⟨rfl, rfl⟩
theorem blF_fz {p : Int} {s : uS} : fz s (blF p s) := fun q => ⟨blF_at _ _, by rw [bl_b]; exact q⟩
theorem niF_fz {T : List Int} {ld : Int} {md : Nat} {lo hi : Int} {s : uS} : fz s (niF T ld md lo hi s).2 := fun q => by
  show (if _ then _ else _ : uS).1 = _ ∧ (if _ then _ else _ : uS).2.1 = _
  rw [nbF_1 q]
  dsimp only
  split
  · exact blF_fz q
  · exact ⟨rfl, q⟩
theorem ckF_fz {T : List Int} {most : Int} {s : uS} : fz s (ckF T most s).2 := by
  unfold ckF
  have h1 := niF_fz (T := T) (ld := 1) (md := 2) (lo := 0) (hi := most) (s := s)
  have h2 := h1.trans (tkF_fz (T := T) (c := 58) (by decide))
  split
  · exact h2.trans niF_fz
  · exact h2
theorem f3F_fz {x : Int × uS} : fz x.2 (f3F x) := by
  unfold f3F; split
  · exact flF_fz
  · exact fz.rfl'
theorem nameF_fz {T : List Int} {s : uS} : fz s (nameF T s) := by
  have h1 : fz s (tkF T 60 s).2 := tkF_fz (by decide)
  have h2 : ∀ q : Int, fz (tkF T 60 s).2 (nlF T q 8 0 (tkF T 60 s).2).2 := fun q g => by rw [nlF_1 g]; exact ⟨rfl, g⟩
  unfold nameF
  split
  · exact ((h1.trans (h2 1)).trans f3F_fz).trans (ndF_fz (by decide))
  · exact (h1.trans (h2 0)).trans f3F_fz
theorem sgnF_fz {T : List Int} {s : uS} : fz s (sgnF T s).2 := by
  unfold sgnF
  split
  · exact tkF_fz (by decide)
  · exact (tkF_fz (by decide)).trans (tkF_fz (by decide))
theorem secF_fz {T : List Int} {h0 first : Int} {s : uS} : fz s (secF T h0 first s).2 := by
  unfold secF
  split
  · exact sgnF_fz.trans ckF_fz
  · dsimp only
    split
    · exact blF_fz
    · exact fz.rfl'
theorem dKF_fz {T : List Int} {s : uS} : fz s (dKF T s).2 := by
  unfold dKF
  have h1 : fz s (tkF T 77 s).2 := tkF_fz (by decide)
  have h2 := h1.trans (tkF_fz (T := T) (c := 74) (by decide))
  split
  · exact h1.trans (((niF_fz.trans (ndF_fz (by decide))).trans (niF_fz.trans (ndF_fz (by decide)))).trans niF_fz)
  · split
    · exact h2.trans niF_fz
    · exact h2.trans niF_fz
theorem dateF_fz {T : List Int} {s : uS} : fz s (dateF T s).2 := by
  unfold dateF
  have h2 := dKF_fz.trans (tkF_fz (T := T) (c := 47) (s := (dKF T s).2) (by decide))
  split
  · exact h2.trans ckF_fz
  · exact h2
theorem neF_fz {T : List Int} {s : uS} : fz s (neF T s) := by
  unfold neF
  split
  · exact fz.rfl'
  · exact flF_fz
theorem ru2F_fz {T : List Int} {h0 first : Int} {s : uS} : fz s (ru2F T h0 first s).2 :=
  ((((((nameF_fz (T := T) (s := s)).trans (secF_fz (T := T) (h0 := h0) (first := first))).trans (ndF_fz (T := T) (c := 44) (by decide))).trans dateF_fz).trans (ndF_fz (T := T) (c := 44) (by decide))).trans dateF_fz).trans neF_fz
theorem fz.b {s t : uS} (h : fz s t) (hs : s.2.1 = 0 ∨ s.2.1 = 1) (ht : t.2.1 = 0) : s.2.1 = 0 := by
  rcases hs with g | g
  · exact g
  · have := (h g).2; omega
theorem RS.b01 {T : List Int} {s r : uS} (h : RS T s r) : s.2.1 = 0 ∨ s.2.1 = 1 := by rcases h with h | h <;> omega
/-- a time with its sign -/
theorem RS.signed {T : List Int} {s r : uS} (h : RS T s r) : RS T (sgnF T s).2 (sgG T 1 r).2 ∧ (s.2.1 = 0 → ((sgnF T s).1 = -1 ∧ (sgG T 1 r).1 = 1) ∨ ((sgnF T s).1 = 1 ∧ (sgG T 1 r).1 = 0)) := by
  by_cases hb : s.2.1 = 0
  · have hr : r.1 = s.1 ∧ r.2.1 < 0 := by rcases h with h | h <;> omega
    have h45 := h.take (c := 45) (by decide)
    have h43 := h.take (c := 43) (by decide)
    unfold sgnF sgG
    have e1 : lk T s = byI T r.1 := by rw [lk_0 hb, hr.1]
    by_cases g : byI T r.1 = 45
    · have e2 : tkF T 45 s = (1, (s.1 + 1, s.2)) := by unfold tkF; rw [if_pos (by rw [e1]; exact g)]
      have e3 : tkG T 45 r = (1, (r.1 + 1, r.2)) := by unfold tkG; rw [if_pos ⟨hr.2, g⟩]
      rw [e2, e3] at h45
      rw [if_pos (by rw [e2]), if_pos ⟨rfl, g⟩, if_pos ⟨rfl, hr.2, Or.inr g⟩, e2]
      exact ⟨h45.2, fun _ => Or.inl ⟨rfl, rfl⟩⟩
    · have e2 : tkF T 45 s = (0, s) := by unfold tkF; rw [if_neg (by rw [e1]; exact g)]
      rw [if_neg (by rw [e2]; show ¬ (0 : Int) = 1; decide), if_neg (fun q => g q.2), e2]
      dsimp only
      by_cases g3 : byI T r.1 = 43
      · have e3 : tkF T 43 s = (1, (s.1 + 1, s.2)) := by unfold tkF; rw [if_pos (by rw [e1]; exact g3)]
        have e4 : tkG T 43 r = (1, (r.1 + 1, r.2)) := by unfold tkG; rw [if_pos ⟨hr.2, g3⟩]
        rw [e3, e4] at h43
        rw [if_pos ⟨rfl, hr.2, Or.inl g3⟩, e3]
        exact ⟨h43.2, fun _ => Or.inr ⟨rfl, rfl⟩⟩
      · have e3 : tkF T 43 s = (0, s) := by unfold tkF; rw [if_neg (by rw [e1]; exact g3)]
        rw [if_neg (fun q => by omega), e3]
        exact ⟨h, fun _ => Or.inr ⟨rfl, rfl⟩⟩
  · have hb1 : s.2.1 = 1 := by rcases h.b01 with g | g; exact absurd g hb; exact g
    have hr : 0 ≤ r.2.1 := by rcases h with h | h <;> omega
    obtain ⟨z1, z2⟩ := sgnF_fz (T := T) hb1
    refine ⟨?_, fun q => absurd q hb⟩
    unfold sgG
    dsimp only
    rw [if_neg (show ¬ ((1 : Int) = 1 ∧ r.2.1 < 0 ∧ (byI T r.1 = 43 ∨ byI T r.1 = 45)) by omega)]
    rcases h with h | h
    · omega
    · exact Or.inr ⟨z2, by rw [z1]; exact h.2.1, by rw [z1]; exact h.2.2⟩
theorem RS.stime {T : List Int} {s r : uS} (most : Int) (hT : T.length ≤ 120) (h : RS T s r) : RS T (stF T most s).2 (tmG T 1 most r).2 ∧ ((stF T most s).2.2.1 = 0 → (stF T most s).1 = -(tmG T 1 most r).1.1 ∧ (sgnF T s).2.1 = (tmG T 1 most r).1.2) := by
  obtain ⟨h1, h2⟩ := h.signed
  obtain ⟨c1, c2⟩ := h1.clock most hT
  refine ⟨c1, fun q => ?_⟩
  have q : (ckF T most (sgnF T s).2).2.2.1 = 0 := q
  have hb1 := ckF_fz.b h1.b01 q
  have hb := sgnF_fz.b h.b01 hb1
  have e := c2 q
  have e2 : (sgnF T s).2.1 = (sgG T 1 r).2.1 := by rcases h1 with h1 | h1 <;> omega
  refine ⟨?_, e2⟩
  show -((sgnF T s).1 * (ckF T most (sgnF T s).2).1) = -(if (sgG T 1 r).1 = 1 then -(ctG T most (sgG T 1 r).2).1 else (ctG T most (sgG T 1 r).2).1)
  rw [e]
  rcases h2 hb with ⟨g1, g2⟩ | ⟨g1, g2⟩
  · rw [g1, if_pos g2]; omega
  · rw [g1, if_neg (by omega)]; omega
theorem RS.dateK {T : List Int} {s r : uS} (hT : T.length ≤ 120) (h : RS T s r) : RS T (dKF T s).2 (dKG T r).2 ∧ ((dKF T s).2.2.1 = 0 → (dKF T s).1 = (dKG T r).1) := by
  obtain ⟨a1, a2⟩ := h.take (c := 77) (by decide)
  obtain ⟨b1, b2⟩ := a2.take (c := 74) (by decide)
  unfold dKF dKG
  rw [← a1, ← b1]
  split
  · obtain ⟨m1, m2⟩ := a2.upTo 1 1 12 hT
    have n1 := m1.expect (c := 46) (by decide)
    obtain ⟨p1, p2⟩ := n1.upTo 0 1 5 hT
    have q1 := p1.expect (c := 46) (by decide)
    obtain ⟨w1, w2⟩ := q1.upTo 0 0 6 hT
    refine ⟨w1, fun q => ?_⟩
    have z1 := niF_fz.b q1.b01 q
    have z2 := (ndF_fz (by decide)).b p1.b01 z1
    have z3 := niF_fz.b n1.b01 z2
    have z4 := (ndF_fz (by decide)).b m1.b01 z3
    show ((0, (niF T 1 2 1 12 (tkF T 77 s).2).1, _, _, 120) : rD) = (0, (utG T 2 1 12 (tkG T 77 r).2).1, _, _, 120)
    rw [m2 z4, p2 z2, w2 q]
  · split
    · obtain ⟨m1, m2⟩ := b2.upTo 2 1 365 hT
      exact ⟨m1, fun q => by rw [m2 q]⟩
    · obtain ⟨m1, m2⟩ := b2.upTo 2 0 365 hT
      exact ⟨m1, fun q => by rw [m2 q]⟩
theorem tmG_0 (T : List Int) (most : Int) (r : uS) : (tmG T 0 most r).1.1 = (ctG T most r).1 ∧ (tmG T 0 most r).2 = (ctG T most r).2 := by
  have e : sgG T 0 r = (0, r) := by
    unfold sgG
    rw [if_neg (fun q => absurd q.1 (by decide)), if_neg (fun q => absurd q.1 (by decide))]
  unfold tmG
  rw [e]
  show (if (0 : Int) = 1 then -(ctG T most r).1 else (ctG T most r).1) = _ ∧ _
  exact ⟨if_neg (by decide), rfl⟩
theorem RS.date {T : List Int} {s r : uS} (hT : T.length ≤ 120) (h : RS T s r) : RS T (dateF T s).2 (dateG T r).2 ∧ ((dateF T s).2.2.1 = 0 → (dateF T s).1 = (dateG T r).1) := by
  obtain ⟨k1, k2⟩ := h.dateK hT
  obtain ⟨a1, a2⟩ := k1.take (c := 47) (by decide)
  obtain ⟨c1, c2⟩ := a2.clock 24 hT
  unfold dateF dateG
  rw [← a1, (tmG_0 T 24 (tkG T 47 (dKG T r).2).2).1, (tmG_0 T 24 (tkG T 47 (dKG T r).2).2).2]
  split
  · refine ⟨c1, fun q => ?_⟩
    have z1 := ckF_fz.b a2.b01 q
    rw [tkF_b] at z1
    dsimp only
    rw [c2 q, k2 z1]
  · refine ⟨a2, fun q => ?_⟩
    have z1 : (tkF T 47 (dKF T s).2).2.2.1 = 0 := q
    rw [tkF_b] at z1
    dsimp only
    rw [k2 z1]
theorem RS.fin {T : List Int} {s r : uS} (h : RS T s r) : RS T (neF T s) (neG T r) := by
  unfold neF neG
  by_cases hb : s.2.1 = 0
  · have hr : r.1 = s.1 ∧ r.2.1 < 0 := by rcases h with h | h <;> omega
    by_cases g : (T.length : Int) ≤ s.1
    · rw [if_pos ⟨hb, g⟩, if_neg (by omega)]; exact h
    · rw [if_neg (fun q => g q.2), if_pos ⟨hr.2, by omega⟩]; exact h.fail
  · have hr : ¬ r.2.1 < 0 := fun q => hb (h.b0.mpr q)
    rw [if_neg (fun q => hb q.1), if_neg (fun q => hr q.1)]
    rcases h with h | h
    · omega
    · exact Or.inr ⟨rfl, h.2⟩
theorem RS.name1 {T : List Int} {s r : uS} (h : RS T s r) : RS T (nameF T s) (n1G T r) := by
  unfold n1G
  by_cases hb : s.2.1 = 0
  · have hr : r.1 = s.1 ∧ r.2.1 < 0 := by rcases h with h | h <;> omega
    by_cases g : ¬ isT (byI T r.1) ∧ byI T r.1 ≠ 60
    · rw [if_pos g]
      have e1 : lk T s = byI T r.1 := by rw [lk_0 hb, hr.1]
      have e2 : tkF T 60 s = (0, s) := by unfold tkF; rw [if_neg (by rw [e1]; exact g.2)]
      have e3 : nlF T 0 8 0 s = (0, s) := by
        show (if _ then _ else _) = _
        rw [if_neg (by rw [e1]; unfold isN; exact fun q => q.elim g.1 (fun q => absurd q.1 (by decide)))]
      have e4 : nameF T s = flF s := by
        unfold nameF
        rw [if_neg (by rw [e2]; show ¬ (0 : Int) = 1; decide), e2]
        dsimp only
        rw [e3]
        rfl
      have e5 := (h.fail).name
      obtain ⟨z1, z2⟩ := nameF_fz (T := T) (s := flF s) rfl
      rw [e4]
      rcases e5 with e5 | e5
      · omega
      · exact Or.inr ⟨rfl, by rw [e5.2.1, z1], by rw [z1] at e5; exact e5.2.2⟩
    · rw [if_neg g]; exact h.name
  · have hr : 0 ≤ r.2.1 := by have : ¬ r.2.1 < 0 := fun q => hb (h.b0.mpr q); omega
    split
    · rw [flG_1 hr]; exact h.name
    · exact h.name
/-- a number in its range, where nothing is wrong -/
theorem nbF_w {T : List Int} {ld : Int} (n : Nat) : ∀ {i v : Int} {s : uS}, (nbF T ld n i v s).2.2.2 = s.2.2 := by
  induction n with
  | zero => intro i v s; rfl
  | succ n ih =>
    intro i v s
    show (if _ then _ else _ : Int × uS).2.2.2 = _
    split
    · rfl
    · rw [ih]
theorem niF_ok {T : List Int} {ld : Int} {md : Nat} {lo hi : Int} {s : uS} (h0 : 0 ≤ s.1) (hw : (niF T ld md lo hi s).2.2.2 < 0) : lo ≤ (niF T ld md lo hi s).1 ∧ (niF T ld md lo hi s).1 ≤ hi ∧ s.2.2 < 0 := by
  have hw : (if (nbF T ld md 0 0 s).1 < lo ∨ hi < (nbF T ld md 0 0 s).1 then blF s.1 (nbF T ld md 0 0 s).2 else (nbF T ld md 0 0 s).2).2.2 < 0 := hw
  show lo ≤ (nbF T ld md 0 0 s).1 ∧ (nbF T ld md 0 0 s).1 ≤ hi ∧ s.2.2 < 0
  have e := nbF_w (T := T) (ld := ld) md (i := 0) (v := 0) (s := s)
  split at hw
  · unfold blF at hw
    split at hw
    · dsimp only at hw; omega
    · omega
  · omega
theorem tkF_w (T : List Int) (c : Int) (s : uS) : (tkF T c s).2.2.2 = s.2.2 := by unfold tkF; split <;> rfl
theorem ckF_ok {T : List Int} {most : Int} {s : uS} (h0 : 0 ≤ s.1) (hw : (ckF T most s).2.2.2 < 0) : 0 ≤ (ckF T most s).1 ∧ (ckF T most s).1 ≤ 60 * most + 59 ∧ s.2.2 < 0 := by
  have hm := niF_mo (T := T) (ld := 1) (md := 2) (lo := 0) (hi := most) (s := s)
  have ht := tkF_mo T 58 (niF T 1 2 0 most s).2
  unfold ckF at hw ⊢
  split at hw
  · rename_i g
    rw [if_pos g]
    obtain ⟨q1, q2, q3⟩ := niF_ok (by omega) hw
    rw [tkF_w] at q3
    obtain ⟨p1, p2, p3⟩ := niF_ok h0 q3
    dsimp only
    omega
  · rename_i g
    rw [if_neg g]
    have hw : (tkF T 58 (niF T 1 2 0 most s).2).2.2.2 < 0 := hw
    rw [tkF_w] at hw
    obtain ⟨p1, p2, p3⟩ := niF_ok h0 hw
    dsimp only
    omega
theorem sgnF_1 (T : List Int) (s : uS) : (sgnF T s).1 = 1 ∨ (sgnF T s).1 = -1 := by
  unfold sgnF; split
  · exact Or.inr rfl
  · exact Or.inl rfl
/-- nothing wrong yet: the first offset is one -/
def okO (s : uS) (f : Int) : Prop := s.2.2 < 0 → -1439 ≤ f ∧ f ≤ 1439
theorem nameF_w (T : List Int) (s : uS) : (nameF T s).2.2 = s.2.2 := by
  have hn : ∀ (q : Int) (n : Nat) (k : Int) (s : uS), (nlF T q n k s).2.2.2 = s.2.2 := by
    intro q n
    induction n with
    | zero => intro k s; rfl
    | succ n ih =>
      intro k s
      show (if _ then _ else _ : Int × uS).2.2.2 = _
      split
      · rw [ih]
      · rfl
  have h3 : ∀ x : Int × uS, (f3F x).2.2 = x.2.2.2 := fun x => by unfold f3F flF; split <;> rfl
  have hd : ∀ (c : Int) (s : uS), (ndF T c s).2.2 = s.2.2 := fun c s => by unfold ndF flF; split <;> rfl
  unfold nameF
  split
  · rw [hd, h3, hn, tkF_w]
  · rw [h3, hn, tkF_w]
/-- the second offset, and the comma behind it -/
theorem RS.sec {T : List Int} {s r : uS} {h0 f : Int} (hT : T.length ≤ 120) (h : RS T s r) (hh : s.2.1 = 0 → 0 ≤ h0 ∧ h0 ≤ s.1) (ho : s.2.1 = 0 → okO s f) : RS T (ndF T 44 (secF T h0 f s).2) (exG T 44 (secG T h0 f r).2) ∧ ((ndF T 44 (secF T h0 f s).2).2.1 = 0 → (secF T h0 f s).1 = (secG T h0 f r).1) := by
  obtain ⟨t1, t2⟩ := h.stime 23 hT
  by_cases hb : s.2.1 = 0
  · have hr : r.1 = s.1 ∧ r.2.1 < 0 := by rcases h with h | h <;> omega
    have e1 : lk T s = byI T r.1 := by rw [lk_0 hb, hr.1]
    unfold secF secG
    by_cases g : lk T s = 43 ∨ lk T s = 45 ∨ 0 ≤ dgF T s
    · have g2 : byI T r.1 ≠ 44 := by
        rw [← e1]
        rcases g with g | g | g
        · omega
        · omega
        · have : isD (lk T s) := by
            apply Decidable.byContradiction
            intro q
            have := dgF_lt.mpr q
            omega
          unfold isD at this; omega
      rw [if_pos g, if_pos ⟨hr.2, g2⟩]
      refine ⟨t1.expect (by decide), fun q => ?_⟩
      have q := (ndF_fz (by decide)).b t1.b01 q
      exact (t2 q).1
    · rw [if_neg g]
      by_cases g2 : byI T r.1 = 44
      · rw [if_neg (show ¬ (r.2.1 < 0 ∧ byI T r.1 ≠ 44) from fun q => q.2 g2)]
        dsimp only
        have hx : RS T (if 1439 < f + 60 then blF h0 s else s) (if r.2.1 < 0 ∧ r.2.2 = 1000 ∧ ¬ oInG (f + 60) then bdG h0 r else r) := by
          obtain ⟨p1, p2⟩ := hh hb
          have p3 := ho hb
          unfold okO at p3
          by_cases hw : s.2.2 < 0
          · have hf := p3 hw
            have hb2 : r.2.2 = 1000 := by rcases h with h | h <;> omega
            by_cases q : 1439 < f + 60
            · rw [if_pos q, if_pos ⟨hr.2, hb2, by unfold oInG; omega⟩]
              exact h.bad hT p1 p2 (Or.inl hw) hb
            · rw [if_neg q, if_neg (show ¬ (r.2.1 < 0 ∧ r.2.2 = 1000 ∧ ¬ oInG (f + 60)) from fun z => z.2.2 (by unfold oInG; omega))]
              exact h
          · have hb2 : r.2.2 ≠ 1000 := by rcases h with h | h <;> omega
            rw [if_neg (show ¬ (r.2.1 < 0 ∧ r.2.2 = 1000 ∧ ¬ oInG (f + 60)) from fun z => hb2 z.2.1)]
            have e : blF h0 s = s := by unfold blF; rw [if_neg hw]
            rw [e]
            split <;> exact h
        exact ⟨hx.expect (by decide), fun _ => rfl⟩
      · rw [if_pos (show r.2.1 < 0 ∧ byI T r.1 ≠ 44 from ⟨hr.2, g2⟩)]
        -- no sign, no digit, no comma: both stop here
        have hx : ∀ x : uS, x.1 = s.1 → x.2.1 = 0 → ndF T 44 x = flF x := fun x q1 q2 => by
          unfold ndF; rw [if_neg (by rw [lk_0 q2, q1, ← hr.1]; exact g2)]
        have hF : ∃ w : Int, ndF T 44 (if 1439 < f + 60 then blF h0 s else s) = (s.1, 1, w) := by
          split
          · rw [hx _ (blF_at _ _) (by rw [bl_b]; exact hb)]; unfold flF; rw [blF_at]; exact ⟨_, rfl⟩
          · rw [hx _ rfl hb]; exact ⟨_, rfl⟩
        have nd : ¬ isD (byI T r.1) := by
          rw [← e1]
          intro q
          exact g (Or.inr (Or.inr (by have := dgF_ge q; unfold isD at q; omega)))
        have es : sgG T 1 r = (0, r) := by
          unfold sgG
          rw [if_neg (fun q => g (Or.inr (Or.inl (by rw [e1]; exact q.2)))), if_neg (fun q => g (by rw [e1]; exact q.2.2.imp id Or.inl))]
        have ed : ∀ n : Nat, dgG T (n + 1) 0 r = (0, flG r) := fun n => by
          show (if _ then (if _ then _ else _) else _) = _
          rw [if_pos hr.2, if_neg nd, dgG_1 (by unfold flG; dsimp only; rw [if_pos hr.2, hr.1]; have := hh hb; omega)]
        have hfl : (flG r).2.1 = s.1 := by unfold flG; dsimp only; rw [if_pos hr.2, hr.1]
        have hs0 : 0 ≤ s.1 := by have := hh hb; omega
        have eh : hrG T 23 r = (0, flG r) := by
          unfold hrG
          rw [ed 0]
          dsimp only
          rw [if_neg (show ¬ ((flG r).2.1 < 0 ∧ isD (byI T (flG r).1)) by omega)]
          dsimp only
          rw [if_neg (by omega)]
        have ec : ctG T 23 r = (60 * 0 + 0, flG r) := by
          unfold ctG
          rw [eh]
          dsimp only
          have : tkG T 58 (flG r) = (0, flG r) := by unfold tkG; rw [if_neg (by omega)]
          rw [this, if_neg (show ¬ (0 : Int) = 1 by decide)]
        have et : (tmG T 1 23 r).2 = flG r := by unfold tmG; rw [es]; dsimp only; rw [ec]
        obtain ⟨w, hw⟩ := hF
        dsimp only
        rw [et, hw]
        have ee : exG T 44 (flG r) = flG r := by unfold exG; rw [if_neg (by omega)]
        rw [ee]
        exact ⟨Or.inr ⟨rfl, hfl, hs0⟩, fun q => absurd q (show ¬ (1 : Int) = 0 by decide)⟩
  · have hb1 : s.2.1 = 1 := by rcases h.b01 with g | g; exact absurd g hb; exact g
    have hr : ¬ r.2.1 < 0 := fun q => hb (h.b0.mpr q)
    have z := ((secF_fz (T := T) (h0 := h0) (first := f) (s := s)).trans (ndF_fz (T := T) (c := 44) (by decide))) hb1
    refine ⟨?_, fun q => by rw [z.2] at q; exact absurd q (by decide)⟩
    unfold secG
    rw [if_neg (fun q => hr q.1)]
    dsimp only
    rw [if_neg (show ¬ (r.2.1 < 0 ∧ r.2.2 = 1000 ∧ ¬ oInG (f + 60)) from fun q => hr q.1)]
    have ee : exG T 44 r = r := by unfold exG; rw [if_neg hr]
    rw [ee]
    rcases h with h | h
    · omega
    · exact Or.inr ⟨z.2, by rw [z.1]; exact h.2.1, by rw [z.1]; exact h.2.2⟩
/-- the whole rule: one verdict, and where it is good one rule -/
theorem ru_same {T : List Int} (hT : T.length ≤ 120) : RS T (ruF T).2 (ruG T).2 ∧ ((ruF T).2.2.1 = 0 → (ruF T).1.1 = (ruG T).1.1 ∧ (ruF T).1.2.1 = (ruG T).1.2.1 ∧ ((ruF T).1.1 = 2 → (ruF T).1 = (ruG T).1)) := by
  have h0 : RS T (0, 0, -1) (0, -1, 1000) := Or.inl ⟨rfl, rfl, rfl, by decide, by omega, Or.inl ⟨rfl, rfl⟩⟩
  have hn := h0.name
  have nm : (nameF T (0, 0, -1)).1 ≥ 0 := nameF_mo T (0, 0, -1)
  obtain ⟨t1, t2⟩ := hn.stime 23 hT
  have e1 : (ruF T) = if (stF T 23 (nameF T (0, 0, -1))).2.2.1 = 0 ∧ (T.length : Int) ≤ (stF T 23 (nameF T (0, 0, -1))).2.1 then ((1, (stF T 23 (nameF T (0, 0, -1))).1, (stF T 23 (nameF T (0, 0, -1))).1, rD0, rD0), (stF T 23 (nameF T (0, 0, -1))).2) else ru2F T (sgnF T (nameF T (0, 0, -1))).2.1 (stF T 23 (nameF T (0, 0, -1))).1 (stF T 23 (nameF T (0, 0, -1))).2 := rfl
  have e2 : (ruG T) = if (tmG T 1 23 (nameG T (0, -1, 1000))).2.2.1 < 0 ∧ (tmG T 1 23 (nameG T (0, -1, 1000))).2.1 < (T.length : Int) then ru2G T (tmG T 1 23 (nameG T (0, -1, 1000))).1.2 (-(tmG T 1 23 (nameG T (0, -1, 1000))).1.1) (tmG T 1 23 (nameG T (0, -1, 1000))).2 else ((1, -(tmG T 1 23 (nameG T (0, -1, 1000))).1.1, 0, rD0, rD0), (tmG T 1 23 (nameG T (0, -1, 1000))).2) := rfl
  have sm : ∀ x : uS, x.1 ≤ (sgnF T x).2.1 := fun x => by
    unfold sgnF
    have a := tkF_mo T 45 x
    have b := tkF_mo T 43 (tkF T 45 x).2
    split <;> (dsimp only; omega)
  have hs1 := sm (nameF T (0, 0, -1))
  have hs2 : (sgnF T (nameF T (0, 0, -1))).2.1 ≤ (stF T 23 (nameF T (0, 0, -1))).2.1 := ckF_mo
  have hok : okO (stF T 23 (nameF T (0, 0, -1))).2 (stF T 23 (nameF T (0, 0, -1))).1 := fun hw => by
    obtain ⟨a, b, -⟩ := ckF_ok (s := (sgnF T (nameF T (0, 0, -1))).2) (by omega) hw
    show -1439 ≤ -((sgnF T (nameF T (0, 0, -1))).1 * (ckF T 23 (sgnF T (nameF T (0, 0, -1))).2).1) ∧ -((sgnF T (nameF T (0, 0, -1))).1 * (ckF T 23 (sgnF T (nameF T (0, 0, -1))).2).1) ≤ 1439
    rcases sgnF_1 T (nameF T (0, 0, -1)) with g | g <;> rw [g] <;> omega
  rw [e1, e2]
  generalize (stF T 23 (nameF T (0, 0, -1))) = x at t1 t2 hs2 hok ⊢
  generalize (tmG T 1 23 (nameG T (0, -1, 1000))) = y at t1 t2 ⊢
  generalize (sgnF T (nameF T (0, 0, -1))).2.1 = hh at t2 hs1 hs2 ⊢
  by_cases hb : x.2.2.1 = 0
  · obtain ⟨v1, v2⟩ := t2 hb
    have hr : y.2.1 = x.2.1 ∧ y.2.2.1 < 0 := by rcases t1 with h | h <;> omega
    by_cases g : (T.length : Int) ≤ x.2.1
    · rw [if_pos ⟨hb, g⟩, if_neg (by omega)]
      exact ⟨t1, fun _ => ⟨rfl, v1, fun q => absurd q (show ¬ (1 : Int) = 2 by decide)⟩⟩
    · rw [if_neg (fun q => g q.2), if_pos ⟨hr.2, by omega⟩, ← v1, ← v2]
      have h1 := t1.name1
      obtain ⟨s1, s2⟩ := h1.sec (h0 := hh) (f := x.1) hT (fun _ => ⟨by omega, Int.le_trans hs2 (nameF_mo T x.2)⟩) (fun _ hw => hok (by rw [nameF_w] at hw; exact hw))
      obtain ⟨d1, d2⟩ := s1.date hT
      have e1 := d1.expect (c := 44) (by decide)
      obtain ⟨f1, f2⟩ := e1.date hT
      refine ⟨f1.fin, fun q => ?_⟩
      have q1 := neF_fz.b f1.b01 q
      have q2 := dateF_fz.b e1.b01 q1
      have q3 := (ndF_fz (by decide)).b d1.b01 q2
      have q4 := dateF_fz.b s1.b01 q3
      have key : (ru2F T hh x.1 x.2).1 = (ru2G T hh x.1 y.2).1 := by
        show ((2, x.1, _, _, _) : rU) = (2, x.1, _, _, _)
        rw [s2 q4, d2 q3, f2 q1]
      exact ⟨by rw [key], by rw [key], fun _ => key⟩
  · have hb1 : x.2.2.1 = 1 := by rcases t1.b01 with g | g; exact absurd g hb; exact g
    have hr : ¬ y.2.2.1 < 0 := fun q => hb (t1.b0.mpr q)
    rw [if_neg (fun q => hb q.1), if_neg (fun q => hr q.1)]
    have z := (ru2F_fz (T := T) (h0 := hh) (first := x.1)) hb1
    refine ⟨?_, fun q => by rw [z.2] at q; exact absurd q (by decide)⟩
    rcases t1 with h | h
    · omega
    · exact Or.inr ⟨z.2, by rw [z.1]; exact h.2.1, by rw [z.1]; exact h.2.2⟩
theorem RS.verdict {T : List Int} {s r : uS} (hT : T.length ≤ 120) (h : RS T s r) : vdF s = vdG r := by
  unfold vdF vdG
  rcases h with ⟨h1, h2, h3, h4, h5, h6⟩ | ⟨h1, h2, h3⟩
  · rw [if_neg (by omega), if_neg (show ¬ (0 ≤ r.2.1) by omega)]
    rcases h6 with ⟨g1, g2⟩ | ⟨g1, g2, g3⟩
    · rw [if_pos (by omega), if_neg (by omega)]
    · rw [if_neg (by omega), if_pos (by omega), g3]
  · rw [if_pos (by omega), if_pos (by omega)]; omega

/-! the next change: the class's search, as functions -/
def ymF (r : rU) (y : Int) : Int := 1440 * ysI y - r.2.1
def yeF (r : rU) (y : Int) : Int := ymF r y + 1440 * (365 + lpI y)
def egF (r : rU) (y : Int) (k : Nat) : Int := if k = 0 then ymF r y else if k = 1 then (if fmF r y ≤ tmF r y then fmF r y else tmF r y) else (if fmF r y ≤ tmF r y then tmF r y else fmF r y)
abbrev cE (r : rU) (y m b : Int) (k : Nat) : Prop := m < egF r y k ∧ ymF r y ≤ egF r y k ∧ egF r y k < yeF r y ∧ oyF r y (egF r y k) ≠ b
def ciF (r : rU) (y m b : Int) : Nat → Int
  | 0 => NONEI
  | n + 1 => if cE r y m b (2 - n) then egF r y (2 - n) else ciF r y m b n
def cyF (r : rU) (m b : Int) : Nat → Int → Int
  | 0, _ => NONEI
  | n + 1, y => if ciF r y m b 3 = NONEI then cyF r m b n (y + 1) else ciF r y m b 3
def cbF (r : rU) (m : Int) : Int := if r.1 ≤ 1 then NONEI else cyF r m (oyF r (yrI ((m + r.2.1) / 1440)) m) 8 (yrI ((m + r.2.1) / 1440))
def bvF (L : List Int) (r : rU) (c : Int × Int) (n : Nat) : Int := if n = 0 ∧ 0 < r.1 then roF r (mtI L c.1) else c.2
def cgF (L : List Int) (r : rU) (t : Int) : Int → List (Int × Int) → Option Int
  | _, [] => none
  | b, c :: q => if t < c.1 ∧ bvF L r c q.length ≠ b then some c.1 else cgF L r t (bvF L r c q.length) q
def stF9 (C : List (Int × Int)) (t : Int) : Int := match C[C.length - 1]? with
  | some c => if t ≤ c.1 then c.1 else t
  | none => t
def znF (L : List Int) (m : Int) : Int := if m = NONEI ∨ ¬ mIn m then NONEI else stI L m
def zbF (L : List Int) (e : zE) (r : rU) (t : Int) : Int := match cgF L r t e.1 e.2 with
  | some x => x
  | none => if r.1 ≤ 0 then NONEI else znF L (cbF r (mtI L (stF9 e.2 t)))
def nxF (L : List Int) (e : zE) (r : rU) (t : Int) : Int := if zbF L e r t = NONEI ∨ 172800000 ≤ zbF L e r t - t then NONEI else zbF L e r t
theorem fm_bd {r : rU} {y : Int} (h : rW r) (h2 : r.1 = 2) (h3 : -1000000000 ≤ ysI y) (h4 : ysI y ≤ 1000000000) : 1440 * ysI y - 30000 ≤ fmF r y ∧ fmF r y ≤ 1440 * ysI y + 1010000 ∧ 1440 * ysI y - 30000 ≤ tmF r y ∧ tmF r y ≤ 1440 * ysI y + 1010000 := by
  obtain ⟨⟨a1, a2⟩, b1, b2⟩ := h.2.2.2 h2
  have c1 := mmF_bd (lp := lpI y) b1 h3 h4
  have c2 := mmF_bd (lp := lpI y) b2 h3 h4
  have d1 : -1439 ≤ r.2.1 ∧ r.2.1 ≤ 1439 := h.2.2.1 (by omega)
  unfold fmF tmF
  omega
theorem eg_bd {r : rU} {y : Int} {k : Nat} (h : rW r) (h2 : r.1 = 2) (h3 : -1000000000 ≤ ysI y) (h4 : ysI y ≤ 1000000000) : -1600000000000 ≤ egF r y k ∧ egF r y k ≤ 1600000000000 := by
  have hb := fm_bd h h2 h3 h4
  have d1 : -1439 ≤ r.2.1 ∧ r.2.1 ≤ 1439 := h.2.2.1 (by omega)
  unfold egF ymF
  split
  · omega
  · split <;> split <;> omega
def spNY (i t : Int) (L : List Int) (zc : zY) (k r : Int) (L' : List Int) (zc' : zY) : Prop := L' = L ∧ zc' = zc ∧ ((k = 1 ∧ ¬ gZ i t L zc) ∨ (k = 0 ∧ gZ i t L zc ∧ ∃ e u, zc.1[i.toNat]? = some e ∧ zc.2[i.toNat]? = some u ∧ r = nxF L e u t))
theorem spNY_det (i t : Int) (L : List Int) (zc : zY) : ypD (spNY i t L zc) := by
  intro k r L1 z k' r' L2 z' h h'
  obtain ⟨h1, h2, h3⟩ := h
  obtain ⟨g1, g2, g3⟩ := h'
  rcases h3 with ⟨a1, a2⟩ | ⟨a1, a2, e, u, a3, a4, a5⟩ <;> rcases g3 with ⟨b1, b2⟩ | ⟨b1, b2, e', u', b3, b4, b5⟩
  · exact ⟨by omega, by rw [h1, g1], by rw [h2, g2], by omega⟩
  · exact absurd b2 a2
  · exact absurd a2 b2
  · cases a3.symm.trans b3
    cases a4.symm.trans b4
    exact ⟨by omega, by rw [h1, g1], by rw [h2, g2], fun _ => by rw [a5, b5]⟩
theorem spNY_no2 {i t : Int} {L : List Int} {zc : zY} {r : Int} {L' : List Int} {zc' : zY} (h : spNY i t L zc 2 r L' zc') : False := by
  obtain ⟨-, -, ⟨h, -⟩ | ⟨h, -⟩⟩ := h <;> omega

/-! p19: class and reference go alike: where they are, and whether the text is broken; w, b: wrong and bad numbers so far -/
def RP (T : List Int) (w b : Int) (s r : uS) : Prop := s.2.2 = w ∧ r.2.2 = b ∧ ((s.2.1 = 0 ∧ r.1 = s.1 ∧ r.2.1 = -1 ∧ 0 ≤ s.1 ∧ s.1 ≤ (T.length : Int)) ∨ (s.2.1 = 1 ∧ r.2.1 = s.1 ∧ 0 ≤ s.1))
def bs (s t : uS) : Prop := t.2.1 = 0 → s.2.1 = 0 ∧ s.1 ≤ t.1
theorem bs.rfl' {s : uS} : bs s s := fun h => ⟨h, Int.le_refl _⟩
theorem bs.trans {s t u : uS} (h : bs s t) (g : bs t u) : bs s u := fun q => ⟨(h (g q).1).1, Int.le_trans (h (g q).1).2 (g q).2⟩
section RPS
variable {T : List Int} {w b c : Int} {s r : uS}
theorem RP.b01 (h : RP T w b s r) : s.2.1 = 0 ∨ s.2.1 = 1 := by rcases h.2.2 with h | h <;> omega
theorem RP.good (h : RP T w b s r) (hb : s.2.1 = 0) : r.1 = s.1 ∧ r.2.1 = -1 ∧ 0 ≤ s.1 ∧ s.1 ≤ (T.length : Int) := by rcases h.2.2 with h | h <;> omega
theorem RP.brk (h : RP T w b s r) (hb : s.2.1 = 1) : r.2.1 = s.1 ∧ 0 ≤ s.1 := by rcases h.2.2 with h | h <;> omega
theorem RP.lkc (h : RP T w b s r) (hc : 0 ≤ c) : lk T s = c ↔ (r.2.1 < 0 ∧ byI T r.1 = c) := by
  rcases h.b01 with hb | hb
  · have g := h.good hb
    rw [lk_0 hb, g.1]
    exact ⟨fun q => ⟨by omega, q⟩, fun q => q.2⟩
  · have g := h.brk hb
    rw [lk_1 (by omega)]
    exact ⟨fun q => by omega, fun q => by omega⟩
theorem RP.isd (h : RP T w b s r) : isD (lk T s) ↔ (r.2.1 < 0 ∧ isD (byI T r.1)) := by
  rcases h.b01 with hb | hb
  · have g := h.good hb
    rw [lk_0 hb, g.1]
    exact ⟨fun q => ⟨by omega, q⟩, fun q => q.2⟩
  · have g := h.brk hb
    rw [lk_1 (by omega)]
    exact ⟨fun q => by unfold isD at q; omega, fun q => by have := q.1; omega⟩
theorem RP.dg (h : RP T w b s r) : 0 ≤ dgF T s ↔ (r.2.1 < 0 ∧ isD (byI T r.1)) := dgF_iff.trans h.isd
theorem RP.fail (h : RP T w b s r) : RP T w b (flF s) (flG r) := by
  obtain ⟨h1, h2, h3⟩ := h
  refine ⟨h1, h2, Or.inr ?_⟩
  unfold flF flG
  dsimp only
  rcases h3 with h | h
  · rw [if_pos (by omega)]; omega
  · rw [if_neg (by omega)]; omega
theorem RP.adv (h : RP T w b s r) (hb : s.2.1 = 0) (hl : s.1 < (T.length : Int)) : RP T w b (s.1 + 1, s.2) (r.1 + 1, r.2) := by
  obtain ⟨h1, h2, h3⟩ := h
  refine ⟨h1, h2, Or.inl ?_⟩
  dsimp only
  rcases h3 with h | h <;> omega
theorem RP.atc (h : RP T w b s r) (hc : 0 ≤ c) (q : lk T s = c) : s.2.1 = 0 ∧ s.1 < (T.length : Int) := by
  rcases h.b01 with hb | hb
  · rw [lk_0 hb] at q
    exact ⟨hb, byI_lt (h.good hb).2.2.1 (by omega)⟩
  · rw [lk_1 (by omega)] at q
    omega
theorem tkF_y (q : lk T s = c) : tkF T c s = (1, (s.1 + 1, s.2)) := by unfold tkF; rw [if_pos q]
theorem tkF_n (q : ¬ lk T s = c) : tkF T c s = (0, s) := by unfold tkF; rw [if_neg q]
theorem tkG_y (q : r.2.1 < 0 ∧ byI T r.1 = c) : tkG T c r = (1, (r.1 + 1, r.2)) := by unfold tkG; rw [if_pos q]
theorem tkG_n (q : ¬ (r.2.1 < 0 ∧ byI T r.1 = c)) : tkG T c r = (0, r) := by unfold tkG; rw [if_neg q]
theorem RP.takes (h : RP T w b s r) (hc : 0 ≤ c) (q : lk T s = c) : tkF T c s = (1, (s.1 + 1, s.2)) ∧ tkG T c r = (1, (r.1 + 1, r.2)) ∧ RP T w b (s.1 + 1, s.2) (r.1 + 1, r.2) ∧ s.2.1 = 0 ∧ bs s (s.1 + 1, s.2) := by
  have a := h.atc hc q
  exact ⟨tkF_y q, tkG_y ((h.lkc hc).mp q), h.adv a.1 a.2, a.1, fun g => ⟨g, by show s.1 ≤ s.1 + 1; omega⟩⟩
theorem RP.not_takes (h : RP T w b s r) (hc : 0 ≤ c) (q : ¬ lk T s = c) : tkF T c s = (0, s) ∧ tkG T c r = (0, r) := ⟨tkF_n q, tkG_n (fun g => q ((h.lkc hc).mpr g))⟩
theorem RP.take (h : RP T w b s r) (hc : 0 ≤ c) : (tkF T c s).1 = (tkG T c r).1 ∧ RP T w b (tkF T c s).2 (tkG T c r).2 ∧ bs s (tkF T c s).2 := by
  by_cases q : lk T s = c
  · obtain ⟨a1, a2, a3, -, a5⟩ := h.takes hc q
    rw [a1, a2]
    exact ⟨rfl, a3, a5⟩
  · obtain ⟨a1, a2⟩ := h.not_takes hc q
    rw [a1, a2]
    exact ⟨rfl, h, bs.rfl'⟩
theorem ndF_bs : bs s (ndF T c s) := by
  unfold ndF flF
  split
  · exact fun g => ⟨g, by show s.1 ≤ s.1 + 1; omega⟩
  · exact fun g => absurd g (by show ¬ (1 : Int) = 0; decide)
theorem RP.expect (h : RP T w b s r) (hc : 0 ≤ c) : RP T w b (ndF T c s) (exG T c r) := by
  unfold ndF exG
  by_cases q : lk T s = c
  · obtain ⟨a1, a2, a3, a4, -⟩ := h.takes hc q
    have := h.good a4
    rw [if_pos q, if_pos (by omega), if_pos (by rw [a2]), a2]
    exact a3
  · obtain ⟨a1, a2⟩ := h.not_takes hc q
    rw [if_neg q]
    rcases h.b01 with hb | hb
    · have := h.good hb
      rw [if_pos (by omega), if_neg (by rw [a2]; show ¬ (0 : Int) = 1; decide), a2]
      exact h.fail
    · have := h.brk hb
      rw [if_neg (by omega), flF_1 hb]
      exact h
theorem nbF_bs {ld : Int} (n : Nat) : ∀ {i v : Int} {s : uS}, bs s (nbF T ld n i v s).2 := by
  induction n with
  | zero => intro i v s; exact bs.rfl'
  | succ n ih =>
    intro i v s
    show bs s (if _ then _ else _ : Int × uS).2
    split
    · intro q
      dsimp only at q ⊢
      split at q
      · cases q
      · exact ⟨by omega, Int.le_refl _⟩
    · exact bs.trans (t := (s.1 + 1, s.2)) (fun g => ⟨g, by show s.1 ≤ s.1 + 1; omega⟩) ih
theorem RP.digits {ld : Int} (n : Nat) : ∀ {i v : Int} {s r : uS}, RP T w b s r → i + n = ld → RP T w b (nbF T ld n i v s).2 (dgG T n v r).2 ∧ ((nbF T ld n i v s).2.2.1 = 0 → (nbF T ld n i v s).1 = (dgG T n v r).1) := by
  induction n with
  | zero => intro i v s r h hi; exact ⟨h, fun _ => rfl⟩
  | succ n ih =>
    intro i v s r h hi
    rcases h.b01 with hb | hb
    · have hr := h.good hb
      show RP T w b (if _ then _ else _ : Int × uS).2 (if _ then (if _ then _ else _) else _ : Int × uS).2 ∧ ((if _ then _ else _ : Int × uS).2.2.1 = 0 → (if _ then _ else _ : Int × uS).1 = (if _ then (if _ then _ else _) else _ : Int × uS).1)
      rw [if_pos (show r.2.1 < 0 by omega)]
      by_cases g : isD (lk T s)
      · have g' := g
        rw [lk_0 hb, ← hr.1] at g'
        rw [if_neg (fun q => dgF_lt.mp q g), if_pos g', dgF_ge g, lk_0 hb, ← hr.1]
        have hlt : s.1 < (T.length : Int) := by
          have g2 := g'
          rw [hr.1] at g2
          exact byI_lt hr.2.2.1 (isD_nn g2)
        have h' := h.adv hb hlt
        have := ih (i := i + 1) (v := 10 * v + byI T r.1 - 48) h' (by omega)
        rw [show v * 10 + (byI T r.1 - 48) = 10 * v + byI T r.1 - 48 by omega, hr.1]
        rw [hr.1] at this
        exact this
      · have g' := g
        rw [lk_0 hb, ← hr.1] at g'
        have hf := h.fail
        have hn : 0 ≤ (flG r).2.1 := by rcases hf.2.2 with q | q; exact absurd q.1 (show ¬ (1 : Int) = 0 by decide); omega
        rw [if_pos (dgF_lt.mpr g), if_neg g', dgG_1 hn]
        dsimp only
        rw [if_pos (Or.inr (by omega))]
        exact ⟨hf, fun q => absurd q (by decide)⟩
    · rw [nbF_1 hb, dgG_1 (by have := h.brk hb; omega)]
      exact ⟨h, fun q => absurd q (by show ¬ s.2.1 = 0; omega)⟩
/-- a number into its fields -/
theorem RP.nm {x : fS} {y : gsS} (k ka k' n : Nat) (h : RP T w b x.2 y.2) : RP T w b (nmF T k ka n n x).2 (nuG T k' n y).2 ∧ bs x.2 (nmF T k ka n n x).2 ∧ ((nmF T k ka n n x).2.2.1 = 0 → ∃ v : Int, 0 ≤ v ∧ v ≤ 10 ^ n - 1 ∧ (nmF T k ka n n x).1 = upF (upF x.1 ka x.2.1) k v ∧ (nuG T k' n y).1 = upF (upF y.1 (k' + 1) x.2.1) k' v) := by
  obtain ⟨h1, h2⟩ := RP.digits (ld := (n : Int)) n (i := 0) (v := 0) h (by omega)
  refine ⟨h1, nbF_bs n, fun q => ?_⟩
  have u := nbF_up (T := T) (ld := (n : Int)) n (i := 0) (v := 0) (s := x.2) (M := 0) (by decide) (by decide)
  have hb := (nbF_bs n q).1
  have e := h2 q
  refine ⟨(nbF T n n 0 0 x.2).1, u.1, by omega, rfl, ?_⟩
  show upF (upF y.1 (k' + 1) y.2.1) k' (dgG T n 0 y.2).1 = _
  rw [(h.good hb).1, e]
end RPS

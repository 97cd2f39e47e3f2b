/-! p19: a duration, class and reference -/
def omW (p w : Int) : Int := if 0 ≤ p ∧ w < 0 then p else w
theorem omI_n (b : Int) : omI (-1) b = b := if_neg (by decide)
theorem omW_n (w : Int) : omW (-1) w = w := if_neg (fun h => absurd h.1 (by decide))
theorem blF_w {p : Int} {s : uS} (hp : 0 ≤ p) : (blF p s).2.2 = omW p s.2.2 := by
  unfold blF omW
  by_cases h : s.2.2 < 0
  · rw [if_pos h, if_pos ⟨hp, h⟩]
  · rw [if_neg h, if_neg (fun q => h q.2)]
section DUR
variable {T : List Int} {w b : Int}
theorem RP.bad {s r : uS} {p : Int} (h : RP T w b s r) (hp : 0 ≤ p) : RP T (omW p w) (omI p b) (blF p s) (bdG p r) := by
  refine ⟨by rw [blF_w hp, h.1], ?_, ?_⟩
  · unfold bdG omI mnI
    rw [if_pos hp, h.2.1]
  · rw [blF_at, bl_b]
    exact h.2.2
theorem dc_loop (m : Nat) : ∀ {i v n : Int} {s r : uS}, RP T w b s r → s.2.1 = 0 → 1 ≤ i → RP T w b (nbF T 1 m i v s).2 (dcL T m v n r).2 ∧ (nbF T 1 m i v s).2.2.1 = 0 ∧ s.1 ≤ (nbF T 1 m i v s).2.1 ∧ n ≤ (dcL T m v n r).1.2 := by
  induction m with
  | zero => intro i v n s r h hb hi; exact ⟨h, hb, Int.le_refl _, Int.le_refl _⟩
  | succ m ih =>
    intro i v n s r h hb hi
    have gd := h.good hb
    show RP T w b (if _ then _ else _ : Int × uS).2 (if _ then _ else _ : (Int × Int) × uS).2 ∧ (if _ then _ else _ : Int × uS).2.2.1 = 0 ∧ s.1 ≤ (if _ then _ else _ : Int × uS).2.1 ∧ n ≤ (if _ then _ else _ : (Int × Int) × uS).1.2
    by_cases d : 0 ≤ dgF T s
    · have d' := h.dg.mp d
      have hd := dgF_iff.mp d
      have ed := dgF_ge hd
      have hlt : s.1 < (T.length : Int) := by
        rw [lk_0 hb] at hd
        exact byI_lt gd.2.2.1 (isD_nn hd)
      rw [lk_0 hb, ← gd.1] at ed
      rw [if_neg (show ¬ dgF T s < 0 by omega), if_pos d'.2, show v * 10 + dgF T s = 10 * v + byI T r.1 - 48 by omega]
      obtain ⟨i1, i2, i3, i4⟩ := ih (i := i + 1) (v := 10 * v + byI T r.1 - 48) (n := n + 1) (h.adv hb hlt) hb (by omega)
      exact ⟨i1, i2, by have : s.1 + 1 ≤ _ := i3; omega, by omega⟩
    · rw [if_pos (show dgF T s < 0 by omega), if_neg (fun q : isD (byI T r.1) => d (h.dg.mpr ⟨by omega, q⟩))]
      dsimp only
      rw [if_neg (by omega)]
      have e : ((s.1, 0, s.2.2) : uS) = s := by
        obtain ⟨a, c, e⟩ := s
        have hb : c = 0 := hb
        rw [hb]
      rw [e]
      exact ⟨h, rfl, Int.le_refl _, Int.le_refl _⟩
/-- up to nine digits, one at least -/
theorem dc_same {s r : uS} (h : RP T w b s r) (d : 0 ≤ dgF T s) : RP T w b (nbF T 1 9 0 0 s).2 (dcL T 9 0 0 r).2 ∧ (nbF T 1 9 0 0 s).2.2.1 = 0 ∧ s.1 ≤ (nbF T 1 9 0 0 s).2.1 ∧ 1 ≤ (dcL T 9 0 0 r).1.2 := by
  have d' := h.dg.mp d
  have hb : s.2.1 = 0 := by
    rcases h.b01 with g | g
    · exact g
    · have := h.brk g; omega
  have gd := h.good hb
  have hd := dgF_iff.mp d
  have ed := dgF_ge hd
  have hlt : s.1 < (T.length : Int) := by
    rw [lk_0 hb] at hd
    exact byI_lt gd.2.2.1 (isD_nn hd)
  rw [lk_0 hb, ← gd.1] at ed
  show RP T w b (if _ then _ else _ : Int × uS).2 (if _ then _ else _ : (Int × Int) × uS).2 ∧ (if _ then _ else _ : Int × uS).2.2.1 = 0 ∧ s.1 ≤ (if _ then _ else _ : Int × uS).2.1 ∧ 1 ≤ (if _ then _ else _ : (Int × Int) × uS).1.2
  rw [if_neg (show ¬ dgF T s < 0 by omega), if_pos d'.2, show (0 : Int) * 10 + dgF T s = 10 * 0 + byI T r.1 - 48 by omega]
  obtain ⟨i1, i2, i3, i4⟩ := dc_loop (T := T) (w := w) (b := b) 8 (i := 0 + 1) (v := 10 * 0 + byI T r.1 - 48) (n := 0 + 1) (h.adv hb hlt) hb (by decide)
  exact ⟨i1, i2, Int.le_trans (show s.1 ≤ s.1 + 1 by omega) i3, i4⟩
/-- perhaps a part -/
theorem dp_same {s : uS} {y : gsS} (h : RP T w b s y.2) (hb : s.2.1 = 0) : RP T w b (dpF T s).2 (ddG T y).2.2 ∧ bs s (dpF T s).2 ∧ (ddG T y).2.1 0 = y.1 0 ∧ (((dpF T s).1.1 = 0 ∧ (dpF T s).1.2 = 0 ∧ (ddG T y).1 = -1 ∧ (dpF T s).2.2.1 = 0) ∨ ((dpF T s).1.1 = 1 ∧ (ddG T y).1 = s.1 ∧ ((dpF T s).2.2.1 = 0 → (dpF T s).1.2 = (ddG T y).2.1 16))) := by
  have gd := h.good hb
  have yes : ∀ c, 0 ≤ c → (c = 46 ∨ c = 44) → lk T s = c → dpF T s = ((1, (ptF T (s.1 + 1, s.2)).1), (ptF T (s.1 + 1, s.2)).2) → RP T w b (dpF T s).2 (ddG T y).2.2 ∧ bs s (dpF T s).2 ∧ (ddG T y).2.1 0 = y.1 0 ∧ (((dpF T s).1.1 = 0 ∧ (dpF T s).1.2 = 0 ∧ (ddG T y).1 = -1 ∧ (dpF T s).2.2.1 = 0) ∨ ((dpF T s).1.1 = 1 ∧ (ddG T y).1 = s.1 ∧ ((dpF T s).2.2.1 = 0 → (dpF T s).1.2 = (ddG T y).2.1 16))) := by
    intro c hc h46 q e
    obtain ⟨a1, a2, a3, a4, a5⟩ := h.takes hc q
    have q' := (h.lkc hc).mp q
    obtain ⟨p1, p2, p3⟩ := pt_same a3
    rw [e]
    unfold ddG
    rw [if_pos (by rcases h46 with e | e <;> omega)]
    unfold tp1G ad1
    dsimp only
    exact ⟨p1, bs.trans a5 p2, up_ne (by decide), Or.inr ⟨rfl, gd.1, fun g => by rw [up_eq]; exact p3 g⟩⟩
  by_cases c : lk T s = 46
  · refine yes 46 (by decide) (Or.inl rfl) c ?_
    unfold dpF
    rw [tkF_y c]
    dsimp only
    rw [if_pos (show (1 : Int) = 1 from rfl)]
  · by_cases d : lk T s = 44
    · refine yes 44 (by decide) (Or.inr rfl) d ?_
      unfold dpF
      rw [tkF_n c]
      dsimp only
      rw [if_neg (show ¬ (0 : Int) = 1 by decide), tkF_y d]
      dsimp only
      rw [if_pos (show (1 : Int) = 1 from rfl)]
    · have e : dpF T s = ((0, 0), s) := by
        unfold dpF
        rw [tkF_n c]
        dsimp only
        rw [if_neg (show ¬ (0 : Int) = 1 by decide), tkF_n d]
        dsimp only
        rw [if_neg (show ¬ (0 : Int) = 1 by decide)]
      rw [e]
      unfold ddG
      rw [if_neg (fun q => by rcases q with e | e; exact c ((h.lkc (by decide)).mpr ⟨by omega, e⟩); exact d ((h.lkc (by decide)).mpr ⟨by omega, e⟩))]
      exact ⟨h, bs.rfl', rfl, Or.inl ⟨rfl, rfl, rfl, hb⟩⟩
/-- the letters -/
def dOKq (tm nx la : Int) : Prop := (tm = 0 ∧ la = 2 ∧ (nx = 0 ∨ nx = 1 ∨ nx = 2)) ∨ (tm = 1 ∧ la = 5 ∧ (nx = 3 ∨ nx = 4 ∨ nx = 5))
theorem le_same {tm nx la : Int} {s : uS} (h : dOKq tm nx la) : leF T la 6 nx s = if nx ≤ lpG (lk T s) tm then (lpG (lk T s) tm, (s.1 + 1, s.2)) else (-1, s) := by
  by_cases a1 : lk T s = 89 <;> by_cases a2 : lk T s = 77 <;> by_cases a3 : lk T s = 68 <;> by_cases a4 : lk T s = 72 <;> by_cases a5 : lk T s = 83 <;> first
    | (exfalso; omega)
    | (rcases h with ⟨h1, h2, h3⟩ | ⟨h1, h2, h3⟩ <;> subst h1 <;> subst h2 <;> rcases h3 with h3 | h3 | h3 <;> subst h3 <;> simp [leF, leC, lpG, a1, a2, a3, a4, a5])
theorem lp_bd {tm nx la c : Int} (h : dOKq tm nx la) (g : nx ≤ lpG c tm) : lpG c tm ≤ la := by
  unfold lpG at *
  rcases h with ⟨h1, h2, h3⟩ | ⟨h1, h2, h3⟩ <;> subst h1 <;> subst h2
  · rw [if_neg (show ¬ (0 : Int) = 1 by decide)] at g ⊢
    split <;> (try split) <;> (try split) <;> omega
  · rw [if_pos (show (1 : Int) = 1 from rfl)] at g ⊢
    split <;> (try split) <;> (try split) <;> omega
/-- a number with its letter -/
theorem dn_same {tm nx la fi : Int} {s : uS} {y : gsS} (h : RP T w b s y.2) (d : 0 ≤ dgF T s) (ho : dOKq tm nx la) (hf : (fi = 1 ∧ tm = 0) ↔ nx = 0) :
    ((dnG T tm nx fi y).1.1 = 1 ∧ (∃ p, (p = -1 ∨ (s.1 ≤ p ∧ p ≤ (snF T nx la s).2.1)) ∧ 0 ≤ s.1 ∧ RP T (omW p w) (omI p b) (snF T nx la s).2 (dnG T tm nx fi y).2.2) ∧ bs s (snF T nx la s).2 ∧ ((snF T nx la s).1.2 = 1 ∨ ((snF T nx la s).2.2.1 = 1 ∧ (snF T nx la s).1.1 = la ∧ (snF T nx la s).1.2 = 0)) ∧ (dnG T tm nx fi y).2.1 0 = y.1 0)
    ∨ ((dnG T tm nx fi y).1.1 = 0 ∧ (snF T nx la s).1.2 = 0 ∧ (snF T nx la s).1.1 = (dnG T tm nx fi y).1.2 ∧ (nx ≤ (dnG T tm nx fi y).1.2 ∧ (dnG T tm nx fi y).1.2 ≤ la) ∧ RP T w b (snF T nx la s).2 (dnG T tm nx fi y).2.2 ∧ (snF T nx la s).2.2.1 = 0 ∧ bs s (snF T nx la s).2 ∧ (dnG T tm nx fi y).2.1 0 = y.1 0) := by
  obtain ⟨n1, n2, n3, n4⟩ := dc_same h d
  have hb : s.2.1 = 0 := by
    rcases h.b01 with g | g
    · exact g
    · have := h.brk g; have := h.dg.mp d; omega
  have gd := h.good hb
  unfold snF dnG
  generalize (nbF T 1 9 0 0 s).2 = s1 at n1 n2 n3 ⊢
  rw [if_neg (show ¬ (dcL T 9 0 0 y.2).1.2 = 0 by omega)]
  clear n4
  generalize (dcL T 9 0 0 y.2).2 = r1 at n1 ⊢
  have hd := dp_same (y := (y.1, r1)) n1 n2
  obtain ⟨p1, p2, p3, p4⟩ := hd
  dsimp only at p3
  generalize dpF T s1 = P at p1 p2 p4 ⊢
  generalize ddG T (y.1, r1) = Q at p1 p3 p4 ⊢
  obtain ⟨⟨P1, P2⟩, P3⟩ := P
  obtain ⟨Q1, Q2, Q3⟩ := Q
  dsimp only at p1 p2 p3 p4 ⊢
  have hbs : bs s P3 := bs.trans (fun _ => ⟨hb, n3⟩) p2
  unfold dlG
  dsimp only
  rcases p1.b01 with g | g
  · have gq := p1.good g
    have ge := p2 g
    rw [if_neg (show ¬ ¬ Q3.2.1 < 0 by omega)]
    have nolet : ∀ {u v : Int}, 0 ≤ u ∧ u < 1 → v = 0 ∧ False → False := fun _ q => q.2
    -- letters
    have lett : ¬ (fi = 1 ∧ tm = 0 ∧ Q1 < 0 ∧ byI T Q3.1 = 87) → ∀ X, X = sn3F T nx la s1.1 (P1, P2) P3 → ∀ Y, Y = (if lpG (byI T Q3.1) tm < nx then (((1, 0), (Q2, flG Q3)) : (Int × Int) × gsS) else if 0 ≤ Q1 then ((1, 0), (upF Q2 15 (lpG (byI T Q3.1) tm), if lpG (byI T Q3.1) tm < 2 ∧ Q2 16 ≠ 0 then bdG Q1 (Q3.1 + 1, Q3.2) else (Q3.1 + 1, Q3.2))) else ((0, lpG (byI T Q3.1) tm), ad1 (Q2, Q3))) →
        (Y.1.1 = 1 ∧ (∃ p, (p = -1 ∨ (s.1 ≤ p ∧ p ≤ X.2.1)) ∧ 0 ≤ s.1 ∧ RP T (omW p w) (omI p b) X.2 Y.2.2) ∧ bs s X.2 ∧ (X.1.2 = 1 ∨ (X.2.2.1 = 1 ∧ X.1.1 = la ∧ X.1.2 = 0)) ∧ Y.2.1 0 = y.1 0)
        ∨ (Y.1.1 = 0 ∧ X.1.2 = 0 ∧ X.1.1 = Y.1.2 ∧ (nx ≤ Y.1.2 ∧ Y.1.2 ≤ la) ∧ RP T w b X.2 Y.2.2 ∧ X.2.2.1 = 0 ∧ bs s X.2 ∧ Y.2.1 0 = y.1 0) := by
      intro _ X hX Y hY
      unfold sn3F at hX
      have eb : byI T P3.1 = byI T Q3.1 := by rw [gq.1]
      rw [le_same ho, lk_0 g, eb] at hX
      have hnx : 0 ≤ nx := by rcases ho with e | e <;> omega
      by_cases c : nx ≤ lpG (byI T Q3.1) tm
      · have hlt : P3.1 < (T.length : Int) := by
          rw [gq.1] at c
          have : 0 ≤ byI T P3.1 := by
            apply Decidable.byContradiction
            intro q
            have e : byI T P3.1 = -1 := by have := (byI_bd T P3.1).1; omega
            rw [e] at c
            have : lpG (-1) tm = -1 := by unfold lpG; split <;> rfl
            omega
          exact byI_lt gq.2.2.1 this
        have ha := p1.adv g hlt
        have hbl := lp_bd ho c
        have hb3 : bs P3 (P3.1 + 1, P3.2) := fun q => ⟨q, by show P3.1 ≤ P3.1 + 1; omega⟩
        rw [if_pos c] at hX
        rw [if_neg (show ¬ lpG (byI T Q3.1) tm < nx by omega)] at hY
        dsimp only at hX
        rw [if_pos (show 0 ≤ lpG (byI T Q3.1) tm by omega)] at hX
        rcases p4 with ⟨k1, k2, k3, k4⟩ | ⟨k1, k2, k3⟩
        · rw [if_neg (show ¬ 0 ≤ Q1 by omega)] at hY
          rw [if_neg (fun q => q.2 k2)] at hX
          subst hX hY
          right
          exact ⟨rfl, k1, rfl, ⟨c, hbl⟩, ha, g, bs.trans hbs hb3, p3⟩
        · rw [if_pos (show 0 ≤ Q1 by omega)] at hY
          have e16 := k3 g
          left
          by_cases z : lpG (byI T Q3.1) tm < 2 ∧ P2 ≠ 0
          · rw [if_pos z] at hX
            rw [if_pos (show lpG (byI T Q3.1) tm < 2 ∧ Q2 16 ≠ 0 by rw [← e16]; exact z), k2] at hY
            subst hX hY
            refine ⟨rfl, ⟨s1.1, Or.inr ⟨n3, ?_⟩, gd.2.2.1, ha.bad (p := s1.1) (by omega)⟩, ?_, Or.inl k1, ?_⟩
            · dsimp only; rw [blF_at]; dsimp only; omega
            · refine bs.trans hbs (bs.trans hb3 ?_)
              intro q
              dsimp only at q ⊢
              rw [bl_b] at q
              rw [blF_at]
              exact ⟨q, Int.le_refl _⟩
            · exact p3
          · rw [if_neg z] at hX
            rw [if_neg (show ¬ (lpG (byI T Q3.1) tm < 2 ∧ Q2 16 ≠ 0) by rw [← e16]; exact z)] at hY
            subst hX hY
            refine ⟨rfl, ⟨-1, Or.inl rfl, gd.2.2.1, by rw [omW_n, omI_n]; exact ha⟩, bs.trans hbs hb3, Or.inl k1, p3⟩
      · rw [if_neg c] at hX
        rw [if_pos (show lpG (byI T Q3.1) tm < nx by omega)] at hY
        dsimp only at hX
        rw [if_neg (show ¬ (0 : Int) ≤ -1 by decide)] at hX
        subst hX hY
        left
        refine ⟨rfl, ⟨-1, Or.inl rfl, gd.2.2.1, by rw [omW_n, omI_n]; exact p1.fail⟩, fun q => absurd q (by show ¬ (1 : Int) = 0; decide), ?_, p3⟩
        rcases p4 with ⟨k1, k2, k3, k4⟩ | ⟨k1, k2, k3⟩
        · exact Or.inr ⟨rfl, rfl, k1⟩
        · exact Or.inl k1
    unfold sn2F
    dsimp only
    by_cases c : nx = 0 ∧ P1 = 0
    · rw [if_pos c]
      have q1 : Q1 < 0 := by rcases p4 with k | k <;> omega
      have fc := hf.mpr c.1
      by_cases e : lk T P3 = 87
      · obtain ⟨a1, a2, a3, a4, a5⟩ := p1.takes (by decide) e
        have e' := (p1.lkc (by decide)).mp e
        rw [a1]
        dsimp only
        rw [if_pos (show (1 : Int) = 1 from rfl), if_pos ⟨fc.1, fc.2, q1, e'.2⟩]
        left
        exact ⟨rfl, ⟨-1, Or.inl rfl, gd.2.2.1, by rw [omW_n, omI_n]; exact a3⟩, bs.trans hbs a5, Or.inl rfl, p3⟩
      · obtain ⟨a1, a2⟩ := p1.not_takes (by decide) e
        rw [a1]
        dsimp only
        have ne : ¬ (fi = 1 ∧ tm = 0 ∧ Q1 < 0 ∧ byI T Q3.1 = 87) := fun q => e ((p1.lkc (by decide)).mpr ⟨by omega, q.2.2.2⟩)
        rw [if_neg (show ¬ (0 : Int) = 1 by decide), if_neg ne]
        exact lett ne _ rfl _ rfl
    · rw [if_neg c]
      have ne : ¬ (fi = 1 ∧ tm = 0 ∧ Q1 < 0 ∧ byI T Q3.1 = 87) := fun q => c ⟨hf.mp ⟨q.1, q.2.1⟩, by rcases p4 with k | k <;> omega⟩
      rw [if_neg ne]
      exact lett ne _ rfl _ rfl
  · have gn := p1.brk g
    rw [if_pos (show ¬ Q3.2.1 < 0 by omega)]
    have k1 : P1 = 1 := by rcases p4 with k | k <;> omega
    have e : sn2F T nx la s1.1 ((P1, P2), P3) = ((la, P1), P3) := by
      unfold sn2F
      dsimp only
      rw [if_neg (fun q => by omega)]
      unfold sn3F
      have e1 : leF T la 6 nx P3 = (-1, P3) := by
        rw [le_same ho, lk_1 (by omega)]
        have : lpG (-1) tm = -1 := by unfold lpG; split <;> rfl
        rw [this, if_neg (by rcases ho with e | e <;> omega)]
      rw [e1]
      dsimp only
      rw [if_neg (show ¬ (0 : Int) ≤ -1 by decide), flF_1 g]
    rw [e]
    left
    exact ⟨rfl, ⟨-1, Or.inl rfl, gd.2.2.1, by rw [omW_n, omI_n]; exact p1⟩, hbs, Or.inl k1, p3⟩
/-- what a duration's end comes to -/
def fnF (x : Int × uS) : uS := if x.1 = 1 then flF x.2 else x.2
theorem du_loop (k : Nat) : ∀ {n : Nat} {tm nx la fi op : Int} {s : uS} {y : gsS}, RP T w b s y.2 → s.2.1 = 0 → dOKq tm nx la → ((fi = 1 ∧ tm = 0) ↔ nx = 0) → (0 ≤ dgF T s ∨ (op = 1 ∧ (tm = 0 → ¬ lk T s = 84))) → (tm = 0 → 7 - nx ≤ (n : Int) ∧ 6 - nx ≤ (k : Int)) → (tm = 1 → 6 - nx ≤ (n : Int) ∧ 6 - nx ≤ (k : Int)) →
    (∃ p, (p = -1 ∨ (s.1 ≤ p ∧ p ≤ (fnF (duR T n nx la op 0 s)).1)) ∧ RP T (omW p w) (omI p b) (fnF (duR T n nx la op 0 s)) (duLG T k tm nx fi y).2) ∧ bs s (fnF (duR T n nx la op 0 s)) ∧ (duLG T k tm nx fi y).1 0 = y.1 0 := by
  induction k with
  | zero =>
    intro n tm nx la fi op s y h hb ho hf hd h0 h1
    rcases ho with e | e
    · have := h0 e.1; omega
    · have := h1 e.1; omega
  | succ k ih =>
    intro n tm nx la fi op s y h hb ho hf hd h0 h1
    have gd := h.good hb
    obtain ⟨n, rfl⟩ : ∃ n', n = n' + 1 := ⟨n - 1, by rcases ho with e | e; (have := h0 e.1; omega); (have := h1 e.1; omega)⟩
    have eR : duR T (n + 1) nx la op 0 s = if nx ≤ la ∧ 0 ≤ dgF T s then duR T n ((snF T nx la s).1.1 + 1) la 0 (snF T nx la s).1.2 (snF T nx la s).2 else if la = 2 then (if (tkF T 84 s).1 = 1 then duR T n 3 5 1 0 (tkF T 84 s).2 else (op, (tkF T 84 s).2)) else (op, s) := rfl
    have eL : duLG T (k + 1) tm nx fi y = if y.2.2.1 < 0 then (if (dnG T tm nx fi y).1.1 = 1 then (dnG T tm nx fi y).2 else if tm = 0 ∧ byI T (dnG T tm nx fi y).2.2.1 = 84 then duLG T k 1 3 0 (ad1 (dnG T tm nx fi y).2) else if isD (byI T (dnG T tm nx fi y).2.2.1) ∧ (dnG T tm nx fi y).1.2 + 1 < (if tm = 1 then 6 else 3) then duLG T k tm ((dnG T tm nx fi y).1.2 + 1) 0 (dnG T tm nx fi y).2 else (dnG T tm nx fi y).2) else y := rfl
    rw [eR, eL, if_pos (show y.2.2.1 < 0 by omega)]
    have hle : nx ≤ la := by rcases ho with e | e <;> omega
    by_cases d : 0 ≤ dgF T s
    · rw [if_pos ⟨hle, d⟩]
      have hn := dn_same (tm := tm) (nx := nx) (la := la) (fi := fi) h d ho hf
      generalize dnG T tm nx fi y = Y at hn ⊢
      generalize snF T nx la s = X at hn ⊢
      rcases hn with ⟨y1, ⟨p, p1, p2, p3⟩, q1, q2, q3⟩ | ⟨y1, q1, q2, q3, q4, q5, q6, q7⟩
      · rw [if_pos y1]
        have e : duR T n (X.1.1 + 1) la 0 X.1.2 X.2 = (0, X.2) := by
          cases n with
          | zero => rfl
          | succ n =>
            show (if _ then _ else _ : Int × uS) = _
            rcases q2 with g | ⟨g1, g2, g3⟩
            · rw [if_pos g]
            · rw [if_neg (by omega), if_neg (fun q => by omega), (tkF_n (T := T) (c := 84) (s := X.2) (by rw [lk_1 (by omega)]; decide))]
              dsimp only
              rw [if_neg (show ¬ (0 : Int) = 1 by decide)]
              split <;> rfl
        rw [e]
        unfold fnF
        dsimp only
        rw [if_neg (show ¬ (0 : Int) = 1 by decide)]
        exact ⟨⟨p, p1, p3⟩, q1, q3⟩
      · rw [if_neg (show ¬ Y.1.1 = 1 by omega), q1, q2]
        have gX := q4.good q5
        have bX := q6 q5
        have up : ∀ (Z : gsS) (Rr : Int × uS) (s2 : uS), bs X.2 s2 → (∃ p, (p = -1 ∨ (s2.1 ≤ p ∧ p ≤ (fnF Rr).1)) ∧ RP T (omW p w) (omI p b) (fnF Rr) Z.2) ∧ bs s2 (fnF Rr) ∧ Z.1 0 = Y.2.1 0 → s2.2.1 = 0 → (∃ p, (p = -1 ∨ (s.1 ≤ p ∧ p ≤ (fnF Rr).1)) ∧ RP T (omW p w) (omI p b) (fnF Rr) Z.2) ∧ bs s (fnF Rr) ∧ Z.1 0 = y.1 0 := by
          intro Z Rr s2 hs2 ⟨⟨p, p1, p2⟩, p3, p4⟩ h2
          have := (hs2 h2).2
          exact ⟨⟨p, by omega, p2⟩, bs.trans q6 (bs.trans hs2 p3), p4.trans q7⟩
        by_cases t : tm = 0 ∧ byI T Y.2.2.1 = 84
        · rw [if_pos t]
          have lt : lk T X.2 = 84 := (q4.lkc (by decide)).mpr ⟨by omega, t.2⟩
          obtain ⟨a1, a2, a3, a4, a5⟩ := q4.takes (by decide) lt
          have e2 : la = 2 := by rcases ho with e | e <;> omega
          obtain ⟨n, rfl⟩ : ∃ n', n = n' + 1 := ⟨n - 1, by have := h0 t.1; omega⟩
          have nd : ¬ 0 ≤ dgF T X.2 := fun q => by have := dgF_iff.mp q; rw [lt] at this; unfold isD at this; omega
          have e3 : duR T (n + 1) (Y.1.2 + 1) la 0 0 X.2 = duR T n 3 5 1 0 (X.2.1 + 1, X.2.2) := by
            show (if (0 : Int) = 1 then _ else if _ then _ else if _ then (if _ then _ else _) else _) = _
            rw [if_neg (by decide), if_neg (fun q => nd q.2), if_pos e2, a1]
            dsimp only
            rw [if_pos (show (1 : Int) = 1 from rfl)]
          rw [e3]
          have hh0 := h0 t.1
          refine up _ _ _ a5 (ih (n := n) (tm := 1) (nx := 3) (la := 5) (fi := 0) (op := 1) (y := ad1 Y.2) a3 q5 (Or.inr ⟨rfl, rfl, Or.inl rfl⟩) (by decide) (Or.inr ⟨rfl, fun q => absurd q (by decide)⟩) (fun q => absurd q (by decide)) (fun _ => ?_)) q5
          rcases ho with e | e <;> omega
        · rw [if_neg t]
          by_cases m : isD (byI T Y.2.2.1) ∧ Y.1.2 + 1 < (if tm = 1 then 6 else 3)
          · rw [if_pos m]
            have dg := q4.dg.mpr ⟨by omega, m.1⟩
            have m2 := m.2
            have ho' : dOKq tm (Y.1.2 + 1) la := by
              rcases ho with ⟨e1, e2, e3⟩ | ⟨e1, e2, e3⟩
              · rw [if_neg (by omega)] at m2
                exact Or.inl ⟨e1, e2, by omega⟩
              · rw [if_pos e1] at m2
                exact Or.inr ⟨e1, e2, by omega⟩
            refine up _ _ _ bs.rfl' (ih (n := n) (tm := tm) (nx := Y.1.2 + 1) (la := la) (fi := 0) (op := 0) (y := Y.2) q4 q5 ho' ⟨fun q => absurd q.1 (by decide), fun q => by rcases ho with e | e <;> omega⟩ (Or.inl dg) (fun q => ?_) (fun q => ?_)) q5
            · have := h0 q; omega
            · have := h1 q; omega
          · rw [if_neg m]
            have e : duR T n (Y.1.2 + 1) la 0 0 X.2 = (0, X.2) := by
              cases n with
              | zero => rfl
              | succ n =>
                show (if (0 : Int) = 1 then _ else if _ then _ else if _ then (if _ then _ else _) else _) = _
                rw [if_neg (by decide), if_neg (fun q => m ⟨(q4.dg.mp q.2).2, by rcases ho with ⟨e1, e2, e3⟩ | ⟨e1, e2, e3⟩; (rw [if_neg (by omega)]; omega); (rw [if_pos e1]; omega)⟩)]
                by_cases e2 : la = 2
                · rw [if_pos e2, tkF_n (fun q => t ⟨by rcases ho with e | e <;> omega, ((q4.lkc (by decide)).mp q).2⟩)]
                  dsimp only
                  rw [if_neg (show ¬ (0 : Int) = 1 by decide)]
                · rw [if_neg e2]
            rw [e]
            unfold fnF
            dsimp only
            rw [if_neg (show ¬ (0 : Int) = 1 by decide)]
            exact ⟨⟨-1, Or.inl rfl, by rw [omW_n, omI_n]; exact q4⟩, q6, q7⟩
    · rw [if_neg (fun q => d q.2)]
      have ho1 : op = 1 ∧ (tm = 0 → ¬ lk T s = 84) := by
        rcases hd with g | g
        · exact absurd g d
        · exact g
      have nd : dcL T 9 0 0 y.2 = ((0, 0), y.2) := by
        show (if _ then _ else _ : (Int × Int) × uS) = _
        rw [if_neg (fun q => d (h.dg.mpr ⟨by omega, q⟩))]
      have eD : dnG T tm nx fi y = ((1, 0), (y.1, flG y.2)) := by
        unfold dnG
        rw [nd]
        dsimp only
        rw [if_pos (show (0 : Int) = 0 from rfl)]
      rw [eD]
      dsimp only
      rw [if_pos (show (1 : Int) = 1 from rfl)]
      have e : (if la = 2 then (if (tkF T 84 s).1 = 1 then duR T n 3 5 1 0 (tkF T 84 s).2 else (op, (tkF T 84 s).2)) else (op, s)) = (op, s) := by
        by_cases e2 : la = 2
        · rw [if_pos e2, tkF_n (ho1.2 (by rcases ho with e | e <;> omega))]
          dsimp only
          rw [if_neg (show ¬ (0 : Int) = 1 by decide)]
        · rw [if_neg e2]
      rw [e]
      unfold fnF
      dsimp only
      rw [if_pos ho1.1]
      exact ⟨⟨-1, Or.inl rfl, by rw [omW_n, omI_n]; exact h.fail⟩, fun q => absurd q (by show ¬ (1 : Int) = 0; decide), rfl⟩
theorem du_same {s r : uS} (h : RP T w b s r) : (∃ p, (p = -1 ∨ (s.1 ≤ p ∧ p ≤ (duF T s).1)) ∧ RP T (omW p w) (omI p b) (duF T s) (duG T r).2) ∧ bs s (duF T s) ∧ (duG T r).1 0 = 4 := by
  have e : duF T s = fnF (duR T 7 0 2 1 0 (ndF T 80 s)) := rfl
  have h1 := h.expect (c := 80) (by decide)
  have b1 : bs s (ndF T 80 s) := ndF_bs
  have m1 := ndF_mo T 80 s
  rw [e]
  unfold duG du0G
  dsimp only
  generalize ndF T 80 s = s1 at h1 b1 m1 ⊢
  generalize exG T 80 r = r1 at h1 ⊢
  have e0 : upF (clG 4) 15 (-1) 0 = 4 := by simp [upF, clG]
  rcases h1.b01 with hb | hb
  · have fin : ∀ {Rr : Int × uS} {Z : gsS} {s2 : uS}, s1.1 ≤ s2.1 → bs s1 s2 → ((∃ p, (p = -1 ∨ (s2.1 ≤ p ∧ p ≤ (fnF Rr).1)) ∧ RP T (omW p w) (omI p b) (fnF Rr) Z.2) ∧ bs s2 (fnF Rr) ∧ Z.1 0 = upF (clG 4) 15 (-1) 0) → (∃ p, (p = -1 ∨ (s.1 ≤ p ∧ p ≤ (fnF Rr).1)) ∧ RP T (omW p w) (omI p b) (fnF Rr) Z.2) ∧ bs s (fnF Rr) ∧ Z.1 0 = 4 := by
      intro Rr Z s2 hm hbs ⟨⟨p, p1, p2⟩, p3, p4⟩
      exact ⟨⟨p, by omega, p2⟩, bs.trans b1 (bs.trans hbs p3), p4.trans e0⟩
    by_cases c : lk T s1 = 84
    · obtain ⟨a1, a2, a3, a4, a5⟩ := h1.takes (by decide) c
      rw [a2]
      dsimp only
      rw [if_pos (show (1 : Int) = 1 from rfl)]
      have nd : ¬ 0 ≤ dgF T s1 := fun q => by have := dgF_iff.mp q; rw [c] at this; unfold isD at this; omega
      have e3 : duR T 7 0 2 1 0 s1 = duR T 6 3 5 1 0 (s1.1 + 1, s1.2) := by
        show (if (0 : Int) = 1 then _ else if _ then _ else if _ then (if _ then _ else _) else _) = _
        rw [if_neg (by decide), if_neg (fun q => nd q.2), if_pos (show (2 : Int) = 2 from rfl), a1]
        dsimp only
        rw [if_pos (show (1 : Int) = 1 from rfl)]
      rw [e3]
      refine fin (s2 := (s1.1 + 1, s1.2)) (by dsimp only; omega) a5 ?_
      exact du_loop 7 (n := 6) (tm := 1) (nx := 3) (la := 5) (fi := 1) (op := 1) (y := (upF (clG 4) 15 (-1), (r1.1 + 1, r1.2))) a3 hb (Or.inr ⟨rfl, rfl, Or.inl rfl⟩) (by decide) (Or.inr ⟨rfl, fun q => absurd q (by decide)⟩) (fun q => absurd q (by decide)) (fun _ => by decide)
    · obtain ⟨a1, a2⟩ := h1.not_takes (by decide) c
      rw [a2]
      dsimp only
      rw [if_neg (show ¬ (0 : Int) = 1 by decide)]
      refine fin (s2 := s1) (Int.le_refl _) bs.rfl' ?_
      exact du_loop 7 (n := 7) (tm := 0) (nx := 0) (la := 2) (fi := 1) (op := 1) (y := (upF (clG 4) 15 (-1), r1)) h1 hb (Or.inl ⟨rfl, rfl, Or.inl rfl⟩) (by decide) (Or.inr ⟨rfl, fun _ => c⟩) (fun _ => by decide) (fun q => absurd q (by decide))
  · have gn := h1.brk hb
    obtain ⟨a1, a2⟩ := h1.not_takes (c := 84) (by decide) (by rw [lk_1 (by omega)]; decide)
    rw [a2]
    dsimp only
    rw [if_neg (show ¬ (0 : Int) = 1 by decide)]
    have e1 : duR T 7 0 2 1 0 s1 = (1, s1) := by
      show (if (0 : Int) = 1 then _ else if _ then _ else if _ then (if _ then _ else _) else _) = _
      rw [if_neg (by decide), if_neg (fun q => by have := (h1.dg.mp q.2).1; omega), if_pos (show (2 : Int) = 2 from rfl), a1]
      dsimp only
      rw [if_neg (show ¬ (0 : Int) = 1 by decide)]
    have e2 : duLG T 7 0 0 1 (upF (clG 4) 15 (-1), r1) = (upF (clG 4) 15 (-1), r1) := by
      show (if _ then _ else _ : gsS) = _
      rw [if_neg (show ¬ r1.2.1 < 0 by omega)]
    rw [e1, e2]
    unfold fnF
    dsimp only
    rw [if_pos (show (1 : Int) = 1 from rfl), flF_1 hb]
    exact ⟨⟨-1, Or.inl rfl, by rw [omW_n, omI_n]; exact h1⟩, b1, e0⟩
end DUR

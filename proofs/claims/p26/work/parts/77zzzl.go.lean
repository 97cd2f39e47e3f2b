/-! p26: going on, as relations: a local time, the change that skips it, months and days -/
abbrev skC (L : List Int) (e : zE) (r : rU) (g s u : Int) : Prop := u ≤ stI L (g - ofF L e r (u - 1)) + s ∧ stI L (g - ofF L e r u) + s < u
def skV (L : List Int) (e : zE) (r : rU) (g s u : Int) : Int := if mIn (g - ofF L e r (u - 1)) then stI L (g - ofF L e r (u - 1)) + s else NONEI
def okC (L : List Int) (e : zE) (r : rU) (u : Int) : Prop := isC L e r u ∧ tOK u L ∧ tOK (u - 1) L
def skR (L : List Int) (e : zE) (r : rU) (g s x : Int) : Prop := (∃ u, okC L e r u ∧ skC L e r g s u ∧ (∀ v, v < u → okC L e r v → ¬ skC L e r g s v) ∧ x = skV L e r g s u) ∨ ((∀ u, okC L e r u → ¬ skC L e r g s u) ∧ x = NONEI)
theorem skR_one {L : List Int} {e : zE} {r : rU} {g s x x' : Int} (h : skR L e r g s x) (h' : skR L e r g s x') : x = x' := by
  rcases h with ⟨u, a1, a2, a3, a4⟩ | ⟨a1, a2⟩ <;> rcases h' with ⟨v, b1, b2, b3, b4⟩ | ⟨b1, b2⟩
  · rcases Int.lt_trichotomy u v with q | q | q
    · exact absurd a2 (b3 u q a1)
    · rw [a4, b4, q]
    · exact absurd b2 (a3 v q b1)
  · exact absurd a2 (b1 u a1)
  · exact absurd b2 (a1 v b1)
  · rw [a2, b2]
def skF (L : List Int) (e : zE) (r : rU) (g s : Int) : Nat → Int → Int
  | 0, _ => NONEI
  | n + 1, t => if zbF L e r t = NONEI then NONEI else if skC L e r g s (zbF L e r t) then skV L e r g s (zbF L e r t) else skF L e r g s n (zbF L e r t)
theorem skF_no {L : List Int} {e : zE} {r : rU} {g s t : Int} {n : Nat} (h : zbF L e r t = NONEI) : skF L e r g s (n + 1) t = NONEI := by
  show (if zbF L e r t = NONEI then NONEI else if skC L e r g s (zbF L e r t) then skV L e r g s (zbF L e r t) else skF L e r g s n (zbF L e r t)) = NONEI
  rw [if_pos h]
theorem skF_yes {L : List Int} {e : zE} {r : rU} {g s t : Int} {n : Nat} (h : zbF L e r t ≠ NONEI) (c : skC L e r g s (zbF L e r t)) : skF L e r g s (n + 1) t = skV L e r g s (zbF L e r t) := by
  show (if zbF L e r t = NONEI then NONEI else if skC L e r g s (zbF L e r t) then skV L e r g s (zbF L e r t) else skF L e r g s n (zbF L e r t)) = _
  rw [if_neg h, if_pos c]
theorem skF_on {L : List Int} {e : zE} {r : rU} {g s t : Int} {n : Nat} (h : zbF L e r t ≠ NONEI) (c : ¬ skC L e r g s (zbF L e r t)) : skF L e r g s (n + 1) t = skF L e r g s n (zbF L e r t) := by
  show (if zbF L e r t = NONEI then NONEI else if skC L e r g s (zbF L e r t) then skV L e r g s (zbF L e r t) else skF L e r g s n (zbF L e r t)) = _
  rw [if_neg h, if_neg c]
theorem sk_win {L : List Int} {e : zE} {r : rU} {g s u : Int} (hof : ∀ t, -1439 ≤ ofF L e r t ∧ ofF L e r t ≤ 1439) (hs : 0 ≤ s) (hs2 : s ≤ 59) (h : skC L e r g s u) : stI L (g - 1439) < u ∧ u < stI L (g + 1440) := by
  obtain ⟨h1, h2⟩ := h
  have o1 := hof (u - 1)
  have o2 := hof u
  have a1 := st_le (L := L) (a := g - 1439) (b := g - ofF L e r u) (by omega)
  have a2 := st_le (L := L) (a := g - ofF L e r (u - 1)) (b := g + 1439) (by omega)
  have a3 := stI_up L (g + 1439)
  rw [show g + 1439 + 1 = g + 1440 by omega] at a3
  omega
theorem tOK_b {L : List Int} {x : Int} (hL : L.length ≤ 40) (h : tOK x L) : stI L (-526984793280) ≤ x ∧ -31700000000000 ≤ x ∧ x ≤ 31600000000000 := by
  have l1 := lsI_b hL (-365961662)
  have l2 := lsI_b hL 364522972
  rw [tOK_lo]
  unfold tOK at h
  omega
theorem skF_far {L : List Int} {e : zE} {r : rU} {g s : Int} (hL : L.length ≤ 40) (hz : ∀ t, stI L (-526984793280) - 1 ≤ t → t ≤ 31700000000000 → isZ L e r t (zbF L e r t)) (hof : ∀ t, -1439 ≤ ofF L e r t ∧ ofF L e r t ≤ 1439) (hs : 0 ≤ s) (hs2 : s ≤ 59) : ∀ (n : Nat) (t : Int), stI L (-526984793280) - 1 ≤ t → t ≤ 31700000000000 → stI L (g + 1440) ≤ t → skF L e r g s n t = NONEI := by
  intro n
  induction n with
  | zero => intro t _ _ _; rfl
  | succ n ih =>
    intro t h1 h2 h3
    by_cases q : zbF L e r t = NONEI
    · exact skF_no q
    · rcases hz t h1 h2 with ⟨w, -⟩ | ⟨-, w1, w2, w3, w4⟩
      · exact absurd w q
      · rw [skF_on q (fun c => by have := (sk_win hof hs hs2 c).2; omega)]
        have hb := tOK_b hL w2
        exact ih _ (by omega) (by omega) (by omega)
/-- how many of a list are behind t -/
def cntF (t : Int) : List Int → Nat
  | [] => 0
  | u :: K => (if t < u then 1 else 0) + cntF t K
theorem cnt_le {t x : Int} (h : t ≤ x) : ∀ K : List Int, cntF x K ≤ cntF t K := by
  intro K
  induction K with
  | nil => exact Nat.le_refl _
  | cons u K ih =>
    show (if x < u then 1 else 0) + cntF x K ≤ (if t < u then 1 else 0) + cntF t K
    by_cases a : x < u
    · rw [if_pos a, if_pos (by omega)]; omega
    · rw [if_neg a]; omega
theorem cnt_lt {t x : Int} (h : t < x) : ∀ K : List Int, x ∈ K → cntF x K < cntF t K := by
  intro K
  induction K with
  | nil => intro hm; cases hm
  | cons u K ih =>
    intro hm
    show (if x < u then 1 else 0) + cntF x K < (if t < u then 1 else 0) + cntF t K
    have h9 := cnt_le (show t ≤ x by omega) K
    rcases List.mem_cons.mp hm with e | e
    · rw [if_neg (by omega), if_pos (by omega)]; omega
    · have := ih e
      by_cases a : x < u
      · rw [if_pos a, if_pos (by omega)]; omega
      · rw [if_neg a]; omega
theorem cnt_len (t : Int) : ∀ K : List Int, cntF t K ≤ K.length := by
  intro K
  induction K with
  | nil => exact Nat.le_refl _
  | cons u K ih =>
    show (if t < u then 1 else 0) + cntF t K ≤ K.length + 1
    by_cases a : t < u
    · rw [if_pos a]; omega
    · rw [if_neg a]; omega
theorem cnt_0 {t u : Int} : ∀ K : List Int, cntF t K = 0 → u ∈ K → ¬ t < u := by
  intro K
  induction K with
  | nil => intro _ hm; cases hm
  | cons v K ih =>
    intro h0 hm
    have h0 : (if t < v then 1 else 0) + cntF t K = 0 := h0
    by_cases a : t < v
    · rw [if_pos a] at h0; omega
    · rw [if_neg a] at h0
      rcases List.mem_cons.mp hm with e | e
      · rw [e]; exact a
      · exact ih (by omega) e
theorem skF_ok {L : List Int} {e : zE} {r : rU} {g s t0 : Int} {K : List Int} (hL : L.length ≤ 40) (hz : ∀ t, stI L (-526984793280) - 1 ≤ t → t ≤ 31700000000000 → isZ L e r t (zbF L e r t)) (hof : ∀ t, -1439 ≤ ofF L e r t ∧ ofF L e r t ≤ 1439) (hs : 0 ≤ s) (hs2 : s ≤ 59) (hK : ∀ u, t0 < u → u < stI L (g + 1440) → isC L e r u → u ∈ K) (hw : stI L (g + 1440) < t0 + 172800000) (h00 : ∀ v, v ≤ stI L (-526984793280) → ¬ skC L e r g s v) : ∀ (n : Nat) (t : Int), t0 ≤ t → stI L (-526984793280) - 1 ≤ t → t ≤ 31700000000000 → cntF t K ≤ n → (∀ v, v ≤ t → okC L e r v → ¬ skC L e r g s v) → skR L e r g s (skF L e r g s n t) := by
  intro n
  induction n with
  | zero =>
    intro t h0 h1 h2 hc hv
    refine Or.inr ⟨fun u hu c => ?_, rfl⟩
    by_cases q : u ≤ t
    · exact hv u q hu c
    · exact cnt_0 (t := t) K (by omega) (hK u (by omega) (sk_win hof hs hs2 c).2 hu.1) (by omega)
  | succ n ih =>
    intro t h0 h1 h2 hc hv
    by_cases q : zbF L e r t = NONEI
    · rw [skF_no q]
      refine Or.inr ⟨fun u hu c => ?_, rfl⟩
      by_cases q2 : u ≤ t
      · exact hv u q2 hu c
      · rcases hz t h1 h2 with ⟨-, w⟩ | ⟨w, -⟩
        · exact w u (by omega) (by have := (sk_win hof hs hs2 c).2; omega) hu.2.1 hu.1
        · exact absurd q w
    · rcases hz t h1 h2 with ⟨w, -⟩ | ⟨-, w1, w2, w3, w4⟩
      · exact absurd w q
      · have hb := tOK_b hL w2
        by_cases c : skC L e r g s (zbF L e r t)
        · rw [skF_yes q c]
          refine Or.inl ⟨zbF L e r t, ⟨w3, w2, ?_, ?_⟩, c, fun v hv1 hv2 => ?_, rfl⟩
          · have h9 : ¬ zbF L e r t ≤ stI L (-526984793280) := fun g9 => h00 _ g9 c
            rw [← tOK_lo]; omega
          · have := w2.2; omega
          · by_cases q2 : v ≤ t
            · exact hv v q2 hv2
            · exact absurd hv2.1 (w4 v (by omega) hv1)
        · rw [skF_on q c]
          have hv' : ∀ v, v ≤ zbF L e r t → okC L e r v → ¬ skC L e r g s v := by
            intro v hv1 hv2
            by_cases q2 : v ≤ t
            · exact hv v q2 hv2
            · by_cases q3 : v = zbF L e r t
              · rw [q3]; exact c
              · exact absurd hv2.1 (w4 v (by omega) (by omega))
          by_cases q4 : stI L (g + 1440) ≤ zbF L e r t
          · rw [skF_far hL hz hof hs hs2 n _ (by omega) (by omega) q4]
            refine Or.inr ⟨fun u hu c9 => ?_, rfl⟩
            have := (sk_win hof hs hs2 c9).2
            exact hv' u (by omega) hu c9
          · have hin := hK _ (by omega) (by omega) w3
            have := cnt_lt w1 K hin
            exact ih _ (by omega) (by omega) (by omega) (by omega) hv'
/-- the list of what may be a change for 2000 days -/
def ylF (L : List Int) (r : rU) : Nat → Int → List Int
  | 0, _ => []
  | n + 1, y => stI L (fmF r y) :: stI L (tmF r y) :: stI L (ymF r y) :: ylF L r n (y + 1)
theorem yl_len (L : List Int) (r : rU) : ∀ (n : Nat) (y : Int), (ylF L r n y).length = 3 * n := by
  intro n
  induction n with
  | zero => intro y; rfl
  | succ n ih =>
    intro y
    have h : (ylF L r (n + 1) y).length = (ylF L r n (y + 1)).length + 1 + 1 + 1 := rfl
    rw [h, ih]
    omega
theorem yl_mem {L : List Int} {r : rU} {x v : Int} (h : edY L r v x) : ∀ (n : Nat) (y : Int), y ≤ v → v < y + (n : Int) → x ∈ ylF L r n y := by
  intro n
  induction n with
  | zero => intro y h1 h2; exfalso; omega
  | succ n ih =>
    intro y h1 h2
    show x ∈ stI L (fmF r y) :: stI L (tmF r y) :: stI L (ymF r y) :: ylF L r n (y + 1)
    by_cases g : v = y
    · rw [g] at h
      rcases h with e | e | e
      · rw [e]; exact List.mem_cons_self
      · rw [e]; exact List.mem_cons_of_mem _ List.mem_cons_self
      · rw [e]; exact List.mem_cons_of_mem _ (List.mem_cons_of_mem _ List.mem_cons_self)
    · exact List.mem_cons_of_mem _ (List.mem_cons_of_mem _ (List.mem_cons_of_mem _ (ih (y + 1) (by omega) (by omega))))
theorem sk_cls {L : List Int} {e : zE} {r : rU} {g s : Int} (hL : L.length ≤ 40) (hW : rW r) (hs : srt e.2) (hB : ∀ c ∈ e.2, oOK c.2 ∧ -31700000000000 ≤ c.1 ∧ c.1 ≤ 31700000000000) (hT : ∀ c ∈ e.2, tOK c.1 L) (hl : e.2.length ≤ 60) (h1 : oOK e.1) (hg1 : -526984791840 ≤ g) (hg2 : g ≤ 524913079679) (hs1 : 0 ≤ s) (hs2 : s ≤ 59) : skR L e r g s (skF L e r g s 120 (stI L (g - 1440) - 1)) := by
  have hof : ∀ t, -1439 ≤ ofF L e r t ∧ ofF L e r t ≤ 1439 := fun t => ofF_bd hW h1 (fun c hc => (hB c hc).1)
  have a1 := st_le (L := L) (a := -526984793280) (b := g - 1440) (by omega)
  have b1 := lsI_b hL ((g - 1440) / 1440)
  have b2 := lsI_b hL ((g + 1440) / 1440)
  have hb : stI L (g - 1440) - 1 ≤ 31600000000000 ∧ stI L (g + 1440) < stI L (g - 1440) - 1 + 172800000 := by
    unfold stI
    omega
  refine skF_ok (K := e.2.map Prod.fst ++ ylF L r 11 (yoF r (mtI L (stI L (g - 1440) - 1)) - 2)) hL (fun t q1 q2 => zb_ok hL hW hs hB hT q1 q2) hof hs1 hs2 (fun u q1 q2 q3 => ?_) hb.2 (fun v q1 c => ?_) 120 _ (Int.le_refl _) (by omega) (by omega) ?_ (fun v q1 _ c => ?_)
  · rcases isC_cd hL hW hs q1 (by omega) q3 with ⟨c, c1, c2⟩ | ⟨-, y, y1, y2, y3⟩
    · exact List.mem_append_left _ (List.mem_map.mpr ⟨c, c1, c2⟩)
    · exact List.mem_append_right _ (yl_mem y3 11 _ y1 (by omega))
  · have h9 := (sk_win hof hs1 hs2 c).1
    have a2 := st_le (L := L) (a := -526984793280) (b := g - 1439) (by omega)
    omega
  · have h9 := cnt_len (stI L (g - 1440) - 1) (e.2.map Prod.fst ++ ylF L r 11 (yoF r (mtI L (stI L (g - 1440) - 1)) - 2))
    rw [List.length_append, List.length_map, yl_len] at h9
    omega
  · have h9 := (sk_win hof hs1 hs2 c).1
    have a2 := st_le (L := L) (a := g - 1440) (b := g - 1439) (by omega)
    omega
/-- the reference compares readings -/
theorem sk_cmp {L : List Int} {u g o s : Int} (hL : L.length ≤ 40) (hn : L.Nodup) (h0 : 0 ≤ s) (h1 : s ≤ 59) : u ≤ stI L (g - o) + s ↔ (mtI L u + o) * 64 + (u - stI L (mtI L u)) ≤ g * 64 + s := by
  have hr := mtI_ok hL u
  have hS := sec60 hn hr
  obtain ⟨r1, r2⟩ := hr
  rcases Int.lt_trichotomy (g - o) (mtI L u) with q | q | q
  · have a1 := stI_up L (g - o)
    have a2 := st_le (L := L) (a := g - o + 1) (b := mtI L u) (by omega)
    constructor <;> intro h9 <;> exfalso <;> omega
  · rw [q]
    constructor <;> intro h9 <;> omega
  · have a2 := st_le (L := L) (a := mtI L u + 1) (b := g - o) (by omega)
    constructor <;> intro h9 <;> omega
def st9 (L : List Int) (e : zE) (r : rU) (g s : Int) (l : List Int) (best found : Int) : Prop := (best = NONEI ∧ found = NONEI ∧ ∀ x ∈ l, ¬ skC L e r g s x) ∨ (best ≠ NONEI ∧ best ∈ l ∧ skC L e r g s best ∧ (∀ x ∈ l, skC L e r g s x → best ≤ x) ∧ found = skV L e r g s best)
theorem st9_yes {L : List Int} {e : zE} {r : rU} {g s : Int} {l : List Int} {best found x : Int} (hx : x ≠ NONEI) (h : st9 L e r g s l best found) (c : skC L e r g s x) (hb : best = NONEI ∨ x < best) : st9 L e r g s (l ++ [x]) x (skV L e r g s x) := by
  refine Or.inr ⟨hx, List.mem_append_right _ List.mem_cons_self, c, fun y hy cy => ?_, rfl⟩
  rcases List.mem_append.mp hy with q | q
  · rcases h with ⟨-, -, h3⟩ | ⟨h1, -, -, h4, -⟩
    · exact absurd cy (h3 y q)
    · have := h4 y q cy
      rcases hb with w | w
      · exact absurd w h1
      · omega
  · rw [List.mem_singleton.mp q]; exact Int.le_refl _
theorem st9_no {L : List Int} {e : zE} {r : rU} {g s : Int} {l : List Int} {best found x : Int} (h : st9 L e r g s l best found) (c : ¬ (skC L e r g s x ∧ (best = NONEI ∨ x < best))) : st9 L e r g s (l ++ [x]) best found := by
  rcases h with ⟨h1, h2, h3⟩ | ⟨h1, h2, h3, h4, h5⟩
  · refine Or.inl ⟨h1, h2, fun y hy => ?_⟩
    rcases List.mem_append.mp hy with q | q
    · exact h3 y q
    · rw [List.mem_singleton.mp q]; exact fun w => c ⟨w, Or.inl h1⟩
  · refine Or.inr ⟨h1, List.mem_append_left _ h2, h3, fun y hy cy => ?_, h5⟩
    rcases List.mem_append.mp hy with q | q
    · exact h4 y q cy
    · rw [List.mem_singleton.mp q] at cy ⊢
      apply Decidable.byContradiction
      intro w
      exact c ⟨cy, Or.inr (by omega)⟩
theorem st9_R {L : List Int} {e : zE} {r : rU} {g s best found : Int} {B : List Int} (hL : L.length ≤ 40) (hW : rW r) (hs : srt e.2) (hof : ∀ t, -1439 ≤ ofF L e r t ∧ ofF L e r t ≤ 1439) (hs1 : 0 ≤ s) (hs2 : s ≤ 59) (hB : ∀ x, x ∈ B ↔ cdG L e r (60 * g - 400000) x ∧ bgC L e r (60 * g - 400000) (60 * g + 400000) x) (h : st9 L e r g s B best found) : skR L e r g s found := by
  have b1 := lsI_b hL ((g - 1439) / 1440)
  have b2 := lsI_b hL ((g + 1440) / 1440)
  have hin : ∀ u, okC L e r u → skC L e r g s u → u ∈ B := by
    intro u q1 q2
    have w := sk_win hof hs1 hs2 q2
    have w3 : 60 * g - 400000 < u ∧ u < 60 * g + 400000 := by
      unfold stI at w
      omega
    exact (hB u).mpr ⟨isC_cd hL hW hs w3.1 (by omega) q1.1, w3.1, w3.2, q1.2.1, q1.2.2, q1.1⟩
  rcases h with ⟨h1, h2, h3⟩ | ⟨h1, h2, h3, h4, h5⟩
  · exact Or.inr ⟨fun u q1 q2 => h3 u (hin u q1 q2) q2, h2⟩
  · obtain ⟨-, -, -, c3, c4, c5⟩ := (hB best).mp h2
    refine Or.inl ⟨best, ⟨c5, c3, c4⟩, h3, fun v q1 q2 q3 => ?_, h5⟩
    have := h4 v (hin v q2 q3) q3
    omega
/-! a local time -/
def lmM (L : List Int) (e : zE) (r : rU) (t : Int) : Int := mtI L t + ofF L e r t
def seI (L : List Int) (t : Int) : Int := t - stI L (mtI L t)
def lcR (L : List Int) (e : zE) (r : rU) (g s x : Int) : Prop := (clF L e r g s)[0]? = some x ∨ ((clF L e r g s).length = 0 ∧ ((s = 60 ∧ ((clF L e r g 59)[0]? = some x ∨ ((clF L e r g 59).length = 0 ∧ skR L e r g 59 x))) ∨ (s ≠ 60 ∧ skR L e r g s x)))
theorem hd_no {A : List Int} {x : Int} (h : A[0]? = some x) (h0 : A.length = 0) : False := by
  have := (List.getElem?_eq_some_iff.mp h).1
  omega
theorem lcR_one {L : List Int} {e : zE} {r : rU} {g s x x' : Int} (h : lcR L e r g s x) (h' : lcR L e r g s x') : x = x' := by
  rcases h with a | ⟨a0, ⟨a1, a | ⟨a2, a3⟩⟩ | ⟨a1, a2⟩⟩ <;> rcases h' with b | ⟨b0, ⟨b1, b | ⟨b2, b3⟩⟩ | ⟨b1, b2⟩⟩
  · exact Option.some.inj (a.symm.trans b)
  · exact (hd_no a b0).elim
  · exact (hd_no a b0).elim
  · exact (hd_no a b0).elim
  · exact (hd_no b a0).elim
  · exact Option.some.inj (a.symm.trans b)
  · exact (hd_no a b2).elim
  · exact absurd a1 b1
  · exact (hd_no b a0).elim
  · exact (hd_no b a2).elim
  · exact skR_one a3 b3
  · exact absurd a1 b1
  · exact (hd_no b a0).elim
  · exact absurd b1 a1
  · exact absurd b1 a1
  · exact skR_one a2 b2
def goR (L : List Int) (e : zE) (r : rU) (t mo dy x : Int) : Prop := (¬ mtV (lmM L e r t / 1440) mo ∧ x = NONEI) ∨ (mtV (lmM L e r t / 1440) mo ∧ ∃ d, mtG (lmM L e r t / 1440) mo d ∧ ((¬ dOK (d + dy) ∧ x = NONEI) ∨ (dOK (d + dy) ∧ lcR L e r ((d + dy) * 1440 + (lmM L e r t - lmM L e r t / 1440 * 1440)) (seI L t) x)))
theorem goR_one {L : List Int} {e : zE} {r : rU} {t mo dy x x' : Int} (h : goR L e r t mo dy x) (h' : goR L e r t mo dy x') : x = x' := by
  rcases h with ⟨a0, a1⟩ | ⟨a0, d, a1, a2⟩ <;> rcases h' with ⟨b0, b1⟩ | ⟨b0, d', b1, b2⟩
  · rw [a1, b1]
  · exact absurd b0 a0
  · exact absurd a0 b0
  · have e9 := mtG_one a1 b1
    subst e9
    rcases a2 with ⟨a2, a3⟩ | ⟨a2, a3⟩ <;> rcases b2 with ⟨b2, b3⟩ | ⟨b2, b3⟩
    · rw [a3, b3]
    · exact absurd b2 a2
    · exact absurd a2 b2
    · exact lcR_one a3 b3
theorem of_mem {L : List Int} {e : zE} {r : rU} {t : Int} (hW : rW r) : ofF L e r t ∈ ofsL e r := by
  have tb : ∀ (C : List (Int × Int)) (f : Int), tbF f C t ∈ f :: C.map Prod.snd := by
    intro C
    induction C with
    | nil => intro f; exact List.mem_cons_self
    | cons c q ih =>
      intro f
      show (if c.1 ≤ t then tbF c.2 q t else f) ∈ f :: c.2 :: q.map Prod.snd
      by_cases g : c.1 ≤ t
      · rw [if_pos g]; exact List.mem_cons_of_mem _ (ih c.2)
      · rw [if_neg g]; exact List.mem_cons_self
  unfold ofsL
  by_cases g : 0 < r.1 ∧ byR e.2 t
  · rw [of_yes g]
    refine List.mem_cons_of_mem _ (List.mem_append_right _ ?_)
    have g1 := g.1
    rw [if_neg (show ¬ r.1 = 0 by omega)]
    by_cases h1 : r.1 = 1
    · rw [if_pos h1, ro_one (by omega)]; exact List.mem_cons_self
    · rw [if_neg h1, ro_two (by omega)]
      unfold oyF
      split
      · exact List.mem_cons_of_mem _ List.mem_cons_self
      · exact List.mem_cons_self
  · rw [of_no g]
    rcases List.mem_cons.mp (tb e.2 e.1) with q | q
    · rw [q]; exact List.mem_cons_self
    · exact List.mem_cons_of_mem _ (List.mem_append_left _ q)
theorem fold_has {L : List Int} {e : zE} {r : rU} {m s o : Int} (c : cnO L e r m s o) : ∀ (l A : List Int), (o ∈ l ∨ stI L (m - o) + s ∈ A) → stI L (m - o) + s ∈ l.foldl (clS L e r m s) A := by
  intro l
  induction l with
  | nil =>
    intro A h
    rcases h with q | q
    · cases q
    · exact q
  | cons o' t ih =>
    intro A h
    refine ih _ ?_
    by_cases c' : cnO L e r m s o'
    · rw [clS_yes c']
      rcases h with q | q
      · rcases List.mem_cons.mp q with w | w
        · exact Or.inr (insF_mem.mpr (Or.inl (by rw [w])))
        · exact Or.inl w
      · exact Or.inr (insF_mem.mpr (Or.inr q))
    · rw [clS_no c']
      rcases h with q | q
      · rcases List.mem_cons.mp q with w | w
        · rw [w] at c; exact absurd c c'
        · exact Or.inl w
      · exact Or.inr q
theorem len_pos {A : List Int} {x : Int} (h : x ∈ A) : 0 < A.length := by
  cases A with
  | nil => cases h
  | cons y q => rw [List.length_cons]; omega
theorem cl_has {L : List Int} {e : zE} {r : rU} {g s o : Int} (hm : o ∈ ofsL e r) (c : cnO L e r g s o) : 0 < (clF L e r g s).length := by
  have h := fold_has c (ofsL e r) [] (Or.inl hm)
  exact len_pos h
theorem cl_of {L : List Int} {e : zE} {r : rU} {g s x : Int} (h : x ∈ clF L e r g s) : ∃ o ∈ ofsL e r, x = stI L (g - o) + s := by
  rcases fold_clmem _ _ h with q | q
  · cases q
  · exact q
theorem ofs_all {e : zE} {r : rU} {o : Int} (hw : rW r) (h1 : oOK e.1) (h2 : ∀ c ∈ e.2, oOK c.2) (h : o ∈ ofsL e r) : -1439 ≤ o ∧ o ≤ 1439 := by
  obtain ⟨i, hi⟩ := List.getElem?_of_mem h
  exact ofs_bd hw h1 h2 hi
/-- the second of an instant is one of its minute -/
theorem se_ls {L : List Int} {t : Int} (hL : L.length ≤ 40) (hn : L.Nodup) : 0 ≤ seI L t ∧ seI L t ≤ lsS L (mtI L t) := by
  obtain ⟨h1, h2⟩ := mtI_ok hL t
  unfold seI lsS
  refine ⟨by omega, ?_⟩
  unfold stI at h2 ⊢
  by_cases g : mtI L t % 1440 = 1439
  · have e1 : (mtI L t + 1) / 1440 = mtI L t / 1440 + 1 := by omega
    rw [e1] at h2
    by_cases q : mtI L t / 1440 ∈ L
    · rw [if_pos ⟨g, q⟩]
      have := ls_1 (d := mtI L t / 1440) hn
      omega
    · rw [if_neg (fun w => q w.2)]
      have := ls_ne q
      omega
  · have e1 : (mtI L t + 1) / 1440 = mtI L t / 1440 := by omega
    rw [e1] at h2
    rw [if_neg (fun w => g w.1)]
    omega
theorem cl_self {L : List Int} {e : zE} {r : rU} {t : Int} (hL : L.length ≤ 40) (hn : L.Nodup) (hW : rW r) (ht : tOK t L) : 0 < (clF L e r (lmM L e r t) (seI L t)).length := by
  refine cl_has (of_mem (L := L) (t := t) hW) ⟨?_, ?_, ?_⟩
  · show mIn (mtI L t + ofF L e r t - ofF L e r t)
    rw [show mtI L t + ofF L e r t - ofF L e r t = mtI L t by omega]
    exact rd_mIn (mtI_ok hL t) ht
  · show seI L t ≤ lsS L (mtI L t + ofF L e r t - ofF L e r t)
    rw [show mtI L t + ofF L e r t - ofF L e r t = mtI L t by omega]
    exact (se_ls hL hn).2
  · show ofF L e r (stI L (mtI L t + ofF L e r t - ofF L e r t) + seI L t) = ofF L e r t
    rw [show mtI L t + ofF L e r t - ofF L e r t = mtI L t by omega, show stI L (mtI L t) + seI L t = t by unfold seI; omega]
/-- where the instants of a local time can be -/
theorem lc_in {L : List Int} {e : zE} {r : rU} {g s x : Int} (hw : rW r) (h1 : oOK e.1) (h2 : ∀ c ∈ e.2, oOK c.2) (hs : 0 ≤ s) (hs2 : s ≤ 60) (h : lcR L e r g s x) (hx : x ≠ NONEI) : stI L (g - 1439) ≤ x ∧ x ≤ stI L (g + 1439) + 60 := by
  have key : ∀ s' A, A = clF L e r g s' → 0 ≤ s' → s' ≤ 60 → A[0]? = some x → stI L (g - 1439) ≤ x ∧ x ≤ stI L (g + 1439) + 60 := by
    intro s' A hA q1 q2 q3
    rw [hA] at q3
    obtain ⟨o, o1, o2⟩ := cl_of (List.mem_of_getElem? q3)
    have ob := ofs_all hw h1 h2 o1
    have a1 := st_le (L := L) (a := g - 1439) (b := g - o) (by omega)
    have a2 := st_le (L := L) (a := g - o) (b := g + 1439) (by omega)
    omega
  have key2 : ∀ s', 0 ≤ s' → s' ≤ 60 → skR L e r g s' x → stI L (g - 1439) ≤ x ∧ x ≤ stI L (g + 1439) + 60 := by
    intro s' q1 q2 q3
    rcases q3 with ⟨u, -, -, -, q4⟩ | ⟨-, q4⟩
    · unfold skV at q4
      have ob := ofF_bd (L := L) (t := u - 1) hw h1 h2
      have a1 := st_le (L := L) (a := g - 1439) (b := g - ofF L e r (u - 1)) (by omega)
      have a2 := st_le (L := L) (a := g - ofF L e r (u - 1)) (b := g + 1439) (by omega)
      by_cases q5 : mIn (g - ofF L e r (u - 1))
      · rw [if_pos q5] at q4; omega
      · rw [if_neg q5] at q4; exact absurd q4 hx
    · exact absurd q4 hx
  rcases h with q | ⟨-, ⟨q0, q | ⟨-, q⟩⟩ | ⟨q0, q⟩⟩
  · exact key s _ rfl hs hs2 q
  · exact key 59 _ rfl (by omega) (by omega) q
  · exact key2 59 (by omega) (by omega) q
  · exact key2 s hs hs2 q
/-- a reading goes on by one second, or to the next minute -/
theorem rd_step {L : List Int} {u o g s : Int} (hL : L.length ≤ 40) (hn : L.Nodup) (h0 : 0 ≤ s) (h1 : s ≤ 59) (h : (mtI L (u - 1) + o) * 64 + seI L (u - 1) < g * 64 + s) : (mtI L u + o) * 64 + seI L u ≤ g * 64 + s := by
  have s1 := sec60 hn (mtI_ok hL u)
  have s2 := sec60 hn (mtI_ok hL (u - 1))
  unfold seI at *
  rcases mt_step (L := L) (u := u) hL with q | ⟨q1, q2⟩
  · rw [q] at h s2
    omega
  · have a := stI_up L (mtI L u - 1)
    rw [show mtI L u - 1 + 1 = mtI L u by omega] at a
    rw [q1] at h s2
    omega
/-- a local time that no instant has is skipped by a change -/
theorem sk_ex {L : List Int} {e : zE} {r : rU} {g s : Int} (hL : L.length ≤ 40) (hn : L.Nodup) (hW : rW r) (h1 : oOK e.1) (h2 : ∀ c ∈ e.2, oOK c.2) (hg1 : -526984790400 ≤ g) (hg2 : g ≤ 524913076799) (hs1 : 0 ≤ s) (hs2 : s ≤ 59) (h0 : (clF L e r g s).length = 0) : ∃ u, okC L e r u ∧ skC L e r g s u := by
  have hof : ∀ t, -1439 ≤ ofF L e r t ∧ ofF L e r t ≤ 1439 := fun t => ofF_bd hW h1 h2
  have hup := st_le (L := L) (a := g - 1440) (b := g + 1440) (by omega)
  have hfind : ∀ n : Nat, (∃ u, stI L (g - 1440) < u ∧ u ≤ stI L (g - 1440) + (n : Int) ∧ (lmM L e r (u - 1)) * 64 + seI L (u - 1) < g * 64 + s ∧ g * 64 + s ≤ lmM L e r u * 64 + seI L u) ∨ lmM L e r (stI L (g - 1440) + (n : Int)) * 64 + seI L (stI L (g - 1440) + (n : Int)) < g * 64 + s := by
    intro n
    induction n with
    | zero =>
      refine Or.inr ?_
      rw [show stI L (g - 1440) + ((0 : Nat) : Int) = stI L (g - 1440) by omega]
      unfold lmM seI
      rw [mt_st hL]
      have := hof (stI L (g - 1440))
      omega
    | succ n ih =>
      rcases ih with ⟨u, a1, a2, a3, a4⟩ | a
      · exact Or.inl ⟨u, a1, by omega, a3, a4⟩
      · by_cases q : lmM L e r (stI L (g - 1440) + ((n + 1 : Nat) : Int)) * 64 + seI L (stI L (g - 1440) + ((n + 1 : Nat) : Int)) < g * 64 + s
        · exact Or.inr q
        · refine Or.inl ⟨stI L (g - 1440) + ((n + 1 : Nat) : Int), by omega, by omega, ?_, by omega⟩
          rw [show stI L (g - 1440) + ((n + 1 : Nat) : Int) - 1 = stI L (g - 1440) + (n : Int) by omega]
          exact a
  rcases hfind (stI L (g + 1440) - stI L (g - 1440)).toNat with ⟨u, a1, a2, a3, a4⟩ | a
  · have hr2 : u ≤ stI L (g + 1440) := by omega
    have n1 := st_le (L := L) (a := -526984793280) (b := g - 1440) (by omega)
    have n2 := st_le (L := L) (a := g + 1440) (b := 524913079679) (by omega)
    have n3 := stI_up L 524913079679
    rw [show (524913079679 : Int) + 1 = 524913079680 by decide] at n3
    have t1 : tOK u L := ⟨by rw [← tOK_lo]; omega, by rw [← tOK_hi]; omega⟩
    have t2 : tOK (u - 1) L := ⟨by rw [← tOK_lo]; omega, by rw [← tOK_hi]; omega⟩
    have hm : mIn (mtI L u) := rd_mIn (mtI_ok hL u) t1
    have hself : lmM L e r u * 64 + seI L u ≠ g * 64 + s := by
      intro q
      have s1 := se_ls (t := u) hL hn
      have s2 := sec60 hn (mtI_ok hL u)
      have e1 : seI L u = s ∧ lmM L e r u = g := by unfold seI at *; omega
      have := cl_self (e := e) (r := r) hL hn hW t1
      rw [e1.1, e1.2] at this
      omega
    have c1 : (mtI L u + ofF L e r (u - 1)) * 64 + seI L u ≤ g * 64 + s := rd_step hL hn hs1 hs2 a3
    have k1 : u ≤ stI L (g - ofF L e r (u - 1)) + s := (sk_cmp hL hn hs1 hs2).mpr c1
    have k2 : ¬ u ≤ stI L (g - ofF L e r u) + s := fun q => by
      have q1 := (sk_cmp hL hn hs1 hs2).mp q
      have q2 : lmM L e r u * 64 + seI L u ≤ g * 64 + s := q1
      omega
    refine ⟨u, ⟨fun q => ?_, t1, t2⟩, k1, by omega⟩
    rw [q] at k2
    exact k2 k1
  · exfalso
    rw [show stI L (g - 1440) + (((stI L (g + 1440) - stI L (g - 1440)).toNat : Nat) : Int) = stI L (g + 1440) by omega] at a
    unfold lmM seI at a
    rw [mt_st hL] at a
    have := hof (stI L (g + 1440))
    omega
theorem lc_ne {L : List Int} {e : zE} {r : rU} {g s x : Int} (hL : L.length ≤ 40) (hn : L.Nodup) (hW : rW r) (h1 : oOK e.1) (h2 : ∀ c ∈ e.2, oOK c.2) (hg1 : -526984790400 ≤ g) (hg2 : g ≤ 524913076799) (hs1 : 0 ≤ s) (hs2 : s ≤ 60) (h : lcR L e r g s x) : x ≠ NONEI := by
  have hb : ∀ k, lsI L k ≤ 40 ∧ -40 ≤ lsI L k := fun k => ⟨(lsI_b hL k).2, (lsI_b hL k).1⟩
  have key : ∀ s' A, A = clF L e r g s' → 0 ≤ s' → s' ≤ 60 → A[0]? = some x → x ≠ NONEI := by
    intro s' A hA q1 q2 q3
    rw [hA] at q3
    obtain ⟨o, o1, o2⟩ := cl_of (List.mem_of_getElem? q3)
    have ob := ofs_all hW h1 h2 o1
    have := hb ((g - o) / 1440)
    unfold stI at o2
    unfold NONEI
    omega
  have key2 : ∀ s', 0 ≤ s' → s' ≤ 59 → (clF L e r g s').length = 0 → skR L e r g s' x → x ≠ NONEI := by
    intro s' q1 q2 q0 q3
    rcases q3 with ⟨u, -, -, -, q4⟩ | ⟨q4, -⟩
    · have ob := ofF_bd (L := L) (t := u - 1) hW h1 h2
      unfold skV at q4
      rw [if_pos (show mIn (g - ofF L e r (u - 1)) from ⟨by omega, by omega⟩)] at q4
      have := hb ((g - ofF L e r (u - 1)) / 1440)
      unfold stI at q4
      unfold NONEI
      omega
    · obtain ⟨u, k1, k2⟩ := sk_ex hL hn hW h1 h2 hg1 hg2 q1 q2 q0
      exact absurd k2 (q4 u k1)
  rcases h with q | ⟨q9, ⟨q0, q | ⟨q1, q⟩⟩ | ⟨q0, q⟩⟩
  · exact key s _ rfl hs1 hs2 q
  · exact key 59 _ rfl (by omega) (by omega) q
  · exact key2 59 (by omega) (by omega) q1 q
  · exact key2 s hs1 (by omega) q9 q
/-! months -/
def msI (a : Int) : Int := nuI (a / 12) (a % 12 + 1) 1
def lmI (a : Int) : Int := mlI (a / 12) (a % 12 + 1)
theorem lm_bd (a : Int) : 28 ≤ lmI a ∧ lmI a ≤ 31 := ml_lo (by omega) (by omega)
theorem cu_12 (y : Int) : cuI y 12 = 334 + lpI y := by
  show bm 11 + (if (2 : Int) < 12 then lpI y else 0) = 334 + lpI y
  rw [if_pos (by decide)]
  rfl
theorem ms_succ (a : Int) : msI (a + 1) = msI a + lmI a := by
  unfold msI lmI
  by_cases g : a % 12 = 11
  · have h1 := nu_cu (a / 12 + 1) 1 1
    have h2 := nu_cu (a / 12) 12 1
    have h3 : cuI (a / 12 + 1) 1 = 0 := by simp [cuI, bm]
    have h4 := cu_12 (a / 12)
    have h5 := ml_v (a / 12) 12
    have h6 := ys_succ (a / 12)
    rw [show (a + 1) / 12 = a / 12 + 1 by omega, show (a + 1) % 12 + 1 = 1 by omega, show a % 12 + 1 = 12 by omega]
    omega
  · have h1 := nu_cu (a / 12) (a % 12 + 1 + 1) 1
    have h2 := nu_cu (a / 12) (a % 12 + 1) 1
    have h3 := cu_succ (y := a / 12) (m := a % 12 + 1) (by omega) (by omega)
    rw [show (a + 1) / 12 = a / 12 by omega, show (a + 1) % 12 + 1 = a % 12 + 1 + 1 by omega]
    omega
theorem ms_add (a : Int) (n : Nat) : msI a + 28 * (n : Int) ≤ msI (a + (n : Int)) := by
  induction n with
  | zero => rw [show a + ((0 : Nat) : Int) = a by omega]; omega
  | succ n ih =>
    have h1 := ms_succ (a + (n : Int))
    have h2 := lm_bd (a + (n : Int))
    rw [show a + ((n + 1 : Nat) : Int) = a + (n : Int) + 1 by omega]
    omega
theorem ms_le {a b : Int} (h : a ≤ b) : msI a + 28 * (b - a) ≤ msI b := by
  have h1 := ms_add a (b - a).toNat
  rw [show a + (((b - a).toNat : Nat) : Int) = b by omega] at h1
  omega
theorem ms_lt {a b : Int} (h : a < b) : msI a + lmI a ≤ msI b := by
  have h1 := ms_le (a := a + 1) (b := b) (by omega)
  rw [ms_succ] at h1
  omega
theorem cv_ms {n y m d : Int} (h : cvP n y m d) : 1 ≤ d ∧ d ≤ lmI (y * 12 + m - 1) ∧ n = msI (y * 12 + m - 1) + d - 1 := by
  obtain ⟨h1, h2, h3, h4, h5⟩ := h
  have e1 : (y * 12 + m - 1) / 12 = y := by omega
  have e2 : (y * 12 + m - 1) % 12 + 1 = m := by omega
  refine ⟨h3, ?_, ?_⟩
  · unfold lmI; rw [e1, e2]; exact h4
  · unfold msI; rw [e1, e2, ← h5]; exact nu_day y m d
theorem ms_one {a b d d' : Int} (h1 : 1 ≤ d) (h2 : d ≤ lmI a) (g1 : 1 ≤ d') (g2 : d' ≤ lmI b) (h : msI a + d - 1 = msI b + d' - 1) : a = b ∧ d = d' := by
  rcases Int.lt_trichotomy a b with q | q | q
  · have := ms_lt q; omega
  · subst q; exact ⟨rfl, by omega⟩
  · have := ms_lt q; omega
def mnF2 (d l : Int) : Int := if d < l then d else l
theorem mt_form {n k x : Int} (h : mtG n k x) : ∃ a d, 1 ≤ d ∧ d ≤ lmI a ∧ n = msI a + d - 1 ∧ x = msI (a + k) + mnF2 d (lmI (a + k)) - 1 := by
  obtain ⟨y, m, d, hc, e⟩ := h
  obtain ⟨h1, h2, h3⟩ := cv_ms hc
  refine ⟨y * 12 + m - 1, d, h1, h2, h3, ?_⟩
  rw [e]
  exact nu_day _ _ _
theorem mn_v (d l : Int) : (d < l ∧ mnF2 d l = d) ∨ (l ≤ d ∧ mnF2 d l = l) := by
  unfold mnF2
  by_cases g : d < l
  · rw [if_pos g]; exact Or.inl ⟨g, rfl⟩
  · rw [if_neg g]; exact Or.inr ⟨by omega, rfl⟩
theorem mt_28 {n k x : Int} (hk : 1 ≤ k) (h : mtG n k x) : n + 28 * k ≤ x := by
  obtain ⟨a, d, h1, h2, h3, h4⟩ := mt_form h
  have v := mn_v d (lmI (a + k))
  have m1 := ms_le (a := a) (b := a + k) (by omega)
  have m2 := ms_le (a := a + 1) (b := a + k) (by omega)
  have m3 := ms_succ a
  have l1 := lm_bd (a + k)
  omega
theorem mt_0 {n x : Int} (h : mtG n 0 x) : x = n := by
  obtain ⟨a, d, h1, h2, h3, h4⟩ := mt_form h
  rw [show a + 0 = a by omega] at h4
  have v := mn_v d (lmI a)
  omega
theorem mt_next {n k x x' : Int} (h : mtG n k x) (h' : mtG n (k + 1) x') : x' ≤ x + 31 := by
  obtain ⟨a, d, h1, h2, h3, h4⟩ := mt_form h
  obtain ⟨a', d', g1, g2, g3, g4⟩ := mt_form h'
  obtain ⟨e1, e2⟩ := ms_one h1 h2 g1 g2 (by omega)
  subst e1 e2
  have v := mn_v d (lmI (a + k))
  have v' := mn_v d (lmI (a + (k + 1)))
  have m3 := ms_succ (a + k)
  rw [show a + k + 1 = a + (k + 1) by omega] at m3
  have l1 := lm_bd (a + k)
  have l2 := lm_bd (a + (k + 1))
  omega
theorem ms_last : msI 11999999 = 364522941 := by decide +kernel
theorem mt_end {n k x : Int} (hv : mtV n k) (hx : mtG n k x) (hk : 0 ≤ k) (h : ¬ mtV n (k + 1)) : 364522941 ≤ x := by
  obtain ⟨h1, h2, y, m, d, hc, g1, g2⟩ := hv
  have ho : 999999 < mtM y m (k + 1) / 12 := by
    apply Decidable.byContradiction
    intro q
    exact h ⟨h1, h2, y, m, d, hc, by unfold mtM at *; omega, by omega⟩
  obtain ⟨a, d', e1, e2, e3, e4⟩ := mt_form hx
  obtain ⟨c1, c2, c3⟩ := cv_ms hc
  obtain ⟨q1, q2⟩ := ms_one e1 e2 c1 c2 (by omega)
  have q3 : a + k = 11999999 := by unfold mtM at *; omega
  rw [q3, ms_last] at e4
  have v := mn_v d' (lmI 11999999)
  have l := lm_bd 11999999
  omega
/-! between -/
def okG (L : List Int) (e : zE) (r : rU) (t0 t1 m d : Int) : Prop := ∃ x, goR L e r t0 m d x ∧ x ≠ NONEI ∧ x ≤ t1
def bmR (L : List Int) (e : zE) (r : rU) (t0 t1 m : Int) : Prop := 0 ≤ m ∧ (m = 0 ∨ okG L e r t0 t1 m 0) ∧ ∀ k, m < k → ¬ okG L e r t0 t1 k 0
def bdR (L : List Int) (e : zE) (r : rU) (t0 t1 m d : Int) : Prop := 0 ≤ d ∧ (d = 0 ∨ okG L e r t0 t1 m d) ∧ ∀ k, d < k → ¬ okG L e r t0 t1 m k
theorem bmR_one {L : List Int} {e : zE} {r : rU} {t0 t1 m m' : Int} (h : bmR L e r t0 t1 m) (h' : bmR L e r t0 t1 m') : m = m' := by
  obtain ⟨a1, a2, a3⟩ := h
  obtain ⟨b1, b2, b3⟩ := h'
  rcases Int.lt_trichotomy m m' with q | q | q
  · rcases b2 with w | w
    · omega
    · exact absurd w (a3 m' q)
  · exact q
  · rcases a2 with w | w
    · omega
    · exact absurd w (b3 m q)
theorem bdR_one {L : List Int} {e : zE} {r : rU} {t0 t1 m d d' : Int} (h : bdR L e r t0 t1 m d) (h' : bdR L e r t0 t1 m d') : d = d' := by
  obtain ⟨a1, a2, a3⟩ := h
  obtain ⟨b1, b2, b3⟩ := h'
  rcases Int.lt_trichotomy d d' with q | q | q
  · rcases b2 with w | w
    · omega
    · exact absurd w (a3 d' q)
  · exact q
  · rcases a2 with w | w
    · omega
    · exact absurd w (b3 d q)
def btR (L : List Int) (e : zE) (r : rU) (t0 t1 w x : Int) : Prop := ∃ m, bmR L e r t0 t1 m ∧ ((w = 0 ∧ x = m) ∨ (w = 1 ∧ bdR L e r t0 t1 m x) ∨ (w = 2 ∧ ∃ d y, bdR L e r t0 t1 m d ∧ goR L e r t0 m d y ∧ x = t1 - y))
theorem btR_one {L : List Int} {e : zE} {r : rU} {t0 t1 w x x' : Int} (h : btR L e r t0 t1 w x) (h' : btR L e r t0 t1 w x') : x = x' := by
  obtain ⟨m, a1, a2⟩ := h
  obtain ⟨m', b1, b2⟩ := h'
  have e9 := bmR_one a1 b1
  subst e9
  rcases a2 with ⟨q, a⟩ | ⟨q, a⟩ | ⟨q, d, y, a3, a4, a5⟩ <;> rcases b2 with ⟨q', b⟩ | ⟨q', b⟩ | ⟨q', d', y', b3, b4, b5⟩
  · rw [a, b]
  · omega
  · omega
  · omega
  · exact bdR_one a b
  · omega
  · omega
  · omega
  · have e8 := bdR_one a3 b3
    subst e8
    rw [a5, b5, goR_one a4 b4]
/-- a goal whose local minute is late enough is behind the end -/
theorem ok_late {L : List Int} {e : zE} {r : rU} {t0 t1 m d x q : Int} (hL : L.length ≤ 40) (hn : L.Nodup) (hw : rW r) (h1 : oOK e.1) (h2 : ∀ c ∈ e.2, oOK c.2) (h : goR L e r t0 m d x) (hx : x ≠ NONEI) (hg : mtG (lmM L e r t0 / 1440) m q) (hl : mtI L t1 + 1439 < (q + d) * 1440 + (lmM L e r t0 - lmM L e r t0 / 1440 * 1440)) : t1 < x := by
  rcases h with ⟨-, h⟩ | ⟨-, q', g1, ⟨-, h⟩ | ⟨g2, g3⟩⟩
  · exact absurd h hx
  · exact absurd h hx
  · have e9 := mtG_one hg g1
    subst e9
    have s1 := sec60 hn (mtI_ok hL t0)
    have hi := lc_in hw h1 h2 (by unfold seI; omega) (by unfold seI; omega) g3 hx
    have a := st_le (L := L) (a := mtI L t1 + 1) (b := (q + d) * 1440 + (lmM L e r t0 - lmM L e r t0 / 1440 * 1440) - 1439) (by omega)
    have := (mtI_ok hL t1).2
    omega
/-- of what was taken, the local minute is not too late -/
theorem go_G {L : List Int} {e : zE} {r : rU} {t m d x : Int} (h : goR L e r t m d x) (hx : x ≠ NONEI) : mtV (lmM L e r t / 1440) m ∧ ∃ q, mtG (lmM L e r t / 1440) m q ∧ dOK (q + d) ∧ lcR L e r ((q + d) * 1440 + (lmM L e r t - lmM L e r t / 1440 * 1440)) (seI L t) x := by
  rcases h with ⟨-, h⟩ | ⟨h0, q, g1, ⟨-, h⟩ | ⟨g2, g3⟩⟩
  · exact absurd h hx
  · exact absurd h hx
  · exact ⟨h0, q, g1, g2, g3⟩
/-- the reference's months end where none can be taken -/
theorem r1_no {L : List Int} {e : zE} {r : rU} {t0 t1 k : Int} (hL : L.length ≤ 40) (hn : L.Nodup) (hw : rW r) (h1 : oOK e.1) (h2 : ∀ c ∈ e.2, oOK c.2) (ht : t0 ≤ t1) (hk : (t1 - t0) / 86400 / 28 + 3 ≤ k) : ¬ okG L e r t0 t1 k 0 := by
  rintro ⟨x, q1, q2, q3⟩
  obtain ⟨-, q, g1, g2, g3⟩ := go_G q1 q2
  have hm := mt_28 (by omega) g1
  have hf := mt_far hL (t := t0) (u := t1) (n := (t1 - t0) / 60 + 1) (by omega)
  have ob := ofF_bd (L := L) (t := t0) hw h1 h2
  have hl : lmM L e r t0 = mtI L t0 + ofF L e r t0 := rfl
  have := ok_late (t1 := t1) hL hn hw h1 h2 q1 q2 g1 (by omega)
  omega
/-- and its days -/
theorem r2_no {L : List Int} {e : zE} {r : rU} {t0 t1 m d y : Int} (hL : L.length ≤ 40) (hn : L.Nodup) (hw : rW r) (h1 : oOK e.1) (h2 : ∀ c ∈ e.2, oOK c.2) (hm : 0 ≤ m) (hy : goR L e r t0 (m + 1) 0 y) (hy2 : y = NONEI ∨ t1 < y) (hd : 70 < d) : ¬ okG L e r t0 t1 m d := by
  rintro ⟨x, q1, q2, q3⟩
  obtain ⟨hv, q, g1, g2, g3⟩ := go_G q1 q2
  have s1 := sec60 hn (mtI_ok hL t0)
  have hn0 := hv.1
  have hdk := g2.2
  rcases hy with ⟨a, -⟩ | ⟨a, q', a1, ⟨a2, -⟩ | ⟨a2, a3⟩⟩
  · have := mt_end hv g1 hm a
    unfold dOK at g2
    omega
  · have b1 := mt_next g1 a1
    have b2 := mt_28 (by omega) a1
    unfold dOK at a2 g2
    exact a2 ⟨by omega, by omega⟩
  · have b1 := mt_next g1 a1
    have b2 := mt_28 (by omega) a1
    have c1 := a2.1
    have c2 := a2.2
    have hse : 0 ≤ seI L t0 ∧ seI L t0 ≤ 60 := by unfold seI; omega
    have hyn : y ≠ NONEI := lc_ne hL hn hw h1 h2 (by omega) (by omega) hse.1 hse.2 a3
    have hyt : t1 < y := by
      rcases hy2 with w | w
      · exact absurd w hyn
      · exact w
    have hi := lc_in hw h1 h2 hse.1 hse.2 a3 hyn
    have a4 := stI_up L ((q' + 0) * 1440 + (lmM L e r t0 - lmM L e r t0 / 1440 * 1440) + 1439)
    have a5 := mt_lt hL (t := t1) (M := (q' + 0) * 1440 + (lmM L e r t0 - lmM L e r t0 / 1440 * 1440) + 1439 + 1) (by omega)
    have := ok_late (t1 := t1) hL hn hw h1 h2 q1 q2 g1 (by omega)
    omega

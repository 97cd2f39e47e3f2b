/-! p15: the next change: the class's search (nxF) and the reference's list have one answer -/
def yoF (r : rU) (m : Int) : Int := yrI ((m + r.2.1) / 1440)
theorem yo_in (r : rU) (m : Int) : ymF r (yoF r m) ≤ m ∧ m < ymF r (yoF r m + 1) := by
  obtain ⟨h1, h2⟩ := yrI_ok ((m + r.2.1) / 1440)
  unfold ymF yoF
  omega
theorem ye_ym (r : rU) (y : Int) : yeF r y = ymF r (y + 1) := by
  unfold yeF ymF
  rw [ys_succ]
  omega
theorem yo_eq {r : rU} {m y : Int} (h1 : ymF r y ≤ m) (h2 : m < ymF r (y + 1)) : yoF r m = y := by
  unfold ymF at h1 h2
  exact yrI_eq ⟨by omega, by omega⟩
theorem ym_mono {r : rU} {y y' : Int} (h : y ≤ y') : ymF r y + 525600 * (y' - y) ≤ ymF r y' := by
  have := ys_mono h
  unfold ymF
  omega
theorem ro_two {r : rU} (h : 2 ≤ r.1) (m : Int) : roF r m = oyF r (yoF r m) m := by
  unfold roF
  rw [if_neg (by omega)]
  rfl
theorem ro_one {r : rU} (h : r.1 ≤ 1) (m : Int) : roF r m = r.2.1 := by
  unfold roF
  rw [if_pos h]
theorem ro_edge {r : rU} {m : Int} (h : 2 ≤ r.1) (hd : roF r m ≠ roF r (m - 1)) : m = ymF r (yoF r m) ∨ m = fmF r (yoF r m) ∨ m = tmF r (yoF r m) := by
  obtain ⟨h1, h2⟩ := yo_in r m
  apply Decidable.byContradiction
  intro q
  have q1 : m ≠ ymF r (yoF r m) := fun g => q (Or.inl g)
  have q2 : m ≠ fmF r (yoF r m) := fun g => q (Or.inr (Or.inl g))
  have q3 : m ≠ tmF r (yoF r m) := fun g => q (Or.inr (Or.inr g))
  have e : yoF r (m - 1) = yoF r m := yo_eq (by omega) (by omega)
  apply hd
  rw [ro_two h, ro_two h, e]
  clear hd e q h1 h2 q1
  generalize yoF r m = y at q2 q3 ⊢
  unfold oyF
  by_cases g : inC (fmF r y) (tmF r y) m
  · have g9 := inB_iff.mp g
    rw [if_pos g, if_pos (inB_iff.mpr (by omega))]
  · rw [if_neg g, if_neg (fun q9 => g (by have q8 := inB_iff.mp q9; exact inB_iff.mpr (by omega)))]
theorem eg_0 (r : rU) (y : Int) : egF r y 0 = ymF r y := by unfold egF; rw [if_pos rfl]
theorem eg_1 (r : rU) (y : Int) : egF r y 1 = if fmF r y ≤ tmF r y then fmF r y else tmF r y := by unfold egF; rw [if_neg (by decide), if_pos rfl]
theorem eg_2 (r : rU) (y : Int) : egF r y 2 = if fmF r y ≤ tmF r y then tmF r y else fmF r y := by unfold egF; rw [if_neg (by decide), if_neg (by decide)]
theorem cE_of {r : rU} {m0 m b : Int} (h : 2 ≤ r.1) (hm : m0 < m) (hb : roF r m ≠ b) (hp : roF r (m - 1) = b) : ∃ k, k < 3 ∧ m = egF r (yoF r m) k ∧ cE r (yoF r m) m0 b k := by
  obtain ⟨h1, h2⟩ := yo_in r m
  have key : ∀ k, m = egF r (yoF r m) k → cE r (yoF r m) m0 b k := fun k e => ⟨by rw [← e]; exact hm, by rw [← e]; exact h1, by rw [← e, ye_ym]; exact h2, by rw [← e, ← ro_two h]; exact hb⟩
  rcases ro_edge (m := m) h (by rw [hp]; exact hb) with g | g | g
  · have e : m = egF r (yoF r m) 0 := by rw [eg_0]; exact g
    exact ⟨0, by decide, e, key 0 e⟩
  · by_cases q : fmF r (yoF r m) ≤ tmF r (yoF r m)
    · have e : m = egF r (yoF r m) 1 := by rw [eg_1, if_pos q]; exact g
      exact ⟨1, by decide, e, key 1 e⟩
    · have e : m = egF r (yoF r m) 2 := by rw [eg_2, if_neg q]; exact g
      exact ⟨2, by decide, e, key 2 e⟩
  · by_cases q : fmF r (yoF r m) ≤ tmF r (yoF r m)
    · have e : m = egF r (yoF r m) 2 := by rw [eg_2, if_pos q]; exact g
      exact ⟨2, by decide, e, key 2 e⟩
    · have e : m = egF r (yoF r m) 1 := by rw [eg_1, if_neg q]; exact g
      exact ⟨1, by decide, e, key 1 e⟩
theorem cE_ro {r : rU} {m m0 b : Int} {k : Nat} (h : 2 ≤ r.1) (e : m = egF r (yoF r m) k) (c : cE r (yoF r m) m0 b k) : roF r m ≠ b := by
  have c4 := c.2.2.2
  rw [← e, ← ro_two h] at c4
  exact c4
theorem ro_const {r : rU} {m0 b e : Int} (h : 2 ≤ r.1) (hb : roF r m0 = b) (hn : ∀ m, m0 < m → m < e → ∀ k, k < 3 → m = egF r (yoF r m) k → ¬ cE r (yoF r m) m0 b k) : ∀ m, m0 ≤ m → m < e → roF r m = b := by
  have key : ∀ n : Nat, m0 + (n : Int) < e → roF r (m0 + (n : Int)) = b := by
    intro n
    induction n with
    | zero => intro _; rw [show m0 + ((0 : Nat) : Int) = m0 by omega]; exact hb
    | succ n ih =>
      intro he
      apply Decidable.byContradiction
      intro q
      have hp : roF r (m0 + ((n + 1 : Nat) : Int) - 1) = b := by rw [show m0 + ((n + 1 : Nat) : Int) - 1 = m0 + (n : Int) by omega]; exact ih (by omega)
      obtain ⟨k, hk, e1, e2⟩ := cE_of h (m0 := m0) (by omega) q hp
      exact hn _ (by omega) he k hk e1 e2
  intro m h1 h2
  have h9 := key (m - m0).toNat (by omega)
  rw [show m0 + (((m - m0).toNat : Nat) : Int) = m by omega] at h9
  exact h9
theorem ci_3 (r : rU) (y m b : Int) : ciF r y m b 3 = if cE r y m b 0 then egF r y 0 else if cE r y m b 1 then egF r y 1 else if cE r y m b 2 then egF r y 2 else NONEI := rfl
theorem ci_none {r : rU} {y m b : Int} (hne : ∀ k, egF r y k ≠ NONEI) (h : ciF r y m b 3 = NONEI) : ∀ k, k < 3 → ¬ cE r y m b k := by
  rw [ci_3] at h
  by_cases g0 : cE r y m b 0
  · rw [if_pos g0] at h; exact absurd h (hne 0)
  · rw [if_neg g0] at h
    by_cases g1 : cE r y m b 1
    · rw [if_pos g1] at h; exact absurd h (hne 1)
    · rw [if_neg g1] at h
      by_cases g2 : cE r y m b 2
      · rw [if_pos g2] at h; exact absurd h (hne 2)
      · intro k hk
        have h3 : k = 0 ∨ k = 1 ∨ k = 2 := by omega
        rcases h3 with e | e | e
        · rw [e]; exact g0
        · rw [e]; exact g1
        · rw [e]; exact g2
theorem ci_some {r : rU} {y m b : Int} (h : ciF r y m b 3 ≠ NONEI) : ∃ k, k < 3 ∧ cE r y m b k ∧ ciF r y m b 3 = egF r y k ∧ ∀ j, j < 3 → cE r y m b j → egF r y k ≤ egF r y j := by
  rw [ci_3] at h
  rw [ci_3]
  by_cases g0 : cE r y m b 0
  · exact ⟨0, by decide, g0, by rw [if_pos g0], fun j hj c => by rw [eg_0]; exact c.2.1⟩
  · by_cases g1 : cE r y m b 1
    · refine ⟨1, by decide, g1, by rw [if_neg g0, if_pos g1], fun j hj c => ?_⟩
      have h3 : j = 0 ∨ j = 1 ∨ j = 2 := by omega
      rcases h3 with e | e | e
      · rw [e] at c; exact absurd c g0
      · rw [e]; exact Int.le_refl _
      · rw [e, eg_1, eg_2]
        by_cases q : fmF r y ≤ tmF r y
        · rw [if_pos q, if_pos q]; exact q
        · rw [if_neg q, if_neg q]; omega
    · by_cases g2 : cE r y m b 2
      · refine ⟨2, by decide, g2, by rw [if_neg g0, if_neg g1, if_pos g2], fun j hj c => ?_⟩
        have h3 : j = 0 ∨ j = 1 ∨ j = 2 := by omega
        rcases h3 with e | e | e
        · rw [e] at c; exact absurd c g0
        · rw [e] at c; exact absurd c g1
        · rw [e]; exact Int.le_refl _
      · rw [if_neg g0, if_neg g1, if_neg g2] at h
        exact absurd rfl h
theorem eg_ne {r : rU} {y : Int} (hW : rW r) (h2 : r.1 = 2) (h3 : -1500000 ≤ y) (h4 : y ≤ 1500000) : ∀ k, egF r y k ≠ NONEI := by
  intro k
  have hb := ysI_bd (y := y) (by omega) (by omega)
  have he := eg_bd (k := k) hW h2 hb.1 hb.2
  unfold NONEI
  omega
theorem cy_ok {r : rU} {m0 b : Int} (hW : rW r) (h2 : r.1 = 2) (hb : roF r m0 = b) : ∀ (n : Nat) (y : Int), -1500000 ≤ y → y + (n : Int) ≤ 1500000 → (∀ m, m0 ≤ m → m < ymF r y → roF r m = b) → (cyF r m0 b n y = NONEI ∧ ∀ m, m0 ≤ m → m < ymF r (y + (n : Int)) → roF r m = b) ∨ (cyF r m0 b n y ≠ NONEI ∧ m0 < cyF r m0 b n y ∧ roF r (cyF r m0 b n y) ≠ b ∧ ∀ m, m0 ≤ m → m < cyF r m0 b n y → roF r m = b) := by
  intro n
  induction n with
  | zero => intro y _ _ hi; exact Or.inl ⟨rfl, fun m h3 h4 => hi m h3 (by rw [show y + ((0 : Nat) : Int) = y by omega] at h4; exact h4)⟩
  | succ n ih =>
    intro y hy1 hy2 hi
    have hc : cyF r m0 b (n + 1) y = if ciF r y m0 b 3 = NONEI then cyF r m0 b n (y + 1) else ciF r y m0 b 3 := rfl
    by_cases g : ciF r y m0 b 3 = NONEI
    · rw [hc, if_pos g]
      have hno := ci_none (eg_ne hW h2 hy1 (by omega)) g
      have hi2 : ∀ m, m0 ≤ m → m < ymF r (y + 1) → roF r m = b := ro_const (by omega) hb (fun m q1 q2 k hk e c => by
        by_cases q : m < ymF r y
        · exact cE_ro (by omega) e c (hi m (by omega) q)
        · have ey : yoF r m = y := yo_eq (by omega) q2
          rw [ey] at c
          exact hno k hk c)
      have h9 := ih (y + 1) (by omega) (by omega) hi2
      rw [show y + 1 + (n : Int) = y + ((n + 1 : Nat) : Int) by omega] at h9
      exact h9
    · rw [hc, if_neg g]
      obtain ⟨k, hk, c, e, hl⟩ := ci_some g
      rw [e] at g ⊢
      have c3 := c.2.2.1
      rw [ye_ym] at c3
      have ex : yoF r (egF r y k) = y := yo_eq c.2.1 c3
      refine Or.inr ⟨g, c.1, ?_, ro_const (by omega) hb (fun m q1 q2 j hj e9 c9 => ?_)⟩
      · rw [ro_two (by omega), ex]
        exact c.2.2.2
      · by_cases q : m < ymF r y
        · exact cE_ro (by omega) e9 c9 (hi m (by omega) q)
        · have ey : yoF r m = y := yo_eq (by omega) (by omega)
          rw [ey] at c9 e9
          have := hl j hj c9
          omega
theorem cb_ok {r : rU} {m0 : Int} (hW : rW r) (h2 : r.1 = 2) (h3 : -540000000000 ≤ m0) (h4 : m0 ≤ 540000000000) : (cbF r m0 = NONEI ∧ ∀ m, m0 ≤ m → m < m0 + 3679200 → roF r m = roF r m0) ∨ (cbF r m0 ≠ NONEI ∧ m0 < cbF r m0 ∧ roF r (cbF r m0) ≠ roF r m0 ∧ ∀ m, m0 ≤ m → m < cbF r m0 → roF r m = roF r m0) := by
  have d1 : -1439 ≤ r.2.1 ∧ r.2.1 ≤ 1439 := hW.2.2.1 (by omega)
  have hy := isY_w (yrI_ok ((m0 + r.2.1) / 1440)) (by omega) (by omega)
  have hy1 : -1200000 ≤ yoF r m0 ∧ yoF r m0 ≤ 1200000 := hy
  obtain ⟨hi1, hi2⟩ := yo_in r m0
  have e : cbF r m0 = cyF r m0 (roF r m0) 8 (yoF r m0) := by
    rw [ro_two (by omega)]
    unfold cbF
    rw [if_neg (by omega)]
    rfl
  rw [e]
  rcases cy_ok hW h2 (m0 := m0) rfl 8 (yoF r m0) (by omega) (by omega) (fun m q1 q2 => by exfalso; omega) with ⟨g1, g2⟩ | g
  · refine Or.inl ⟨g1, fun m q1 q2 => g2 m q1 ?_⟩
    have := ym_mono (r := r) (y := yoF r m0 + 1) (y' := yoF r m0 + ((8 : Nat) : Int)) (by omega)
    omega
  · exact Or.inr g
/-! instants and minutes -/
theorem st_le {L : List Int} {a b : Int} (h : a ≤ b) : stI L a ≤ stI L b := by
  have h3 := stI_mono L a (b - a).toNat
  rw [show a + (((b - a).toNat : Nat) : Int) = b by omega] at h3
  omega
theorem mt_ge {L : List Int} {t M : Int} (hL : L.length ≤ 40) (h : stI L M ≤ t) : M ≤ mtI L t := by
  obtain ⟨h1, h2⟩ := mtI_ok hL t
  apply Decidable.byContradiction
  intro q
  have := st_le (L := L) (a := mtI L t + 1) (b := M) (by omega)
  omega
theorem mt_lt {L : List Int} {t M : Int} (hL : L.length ≤ 40) (h : t < stI L M) : mtI L t < M := by
  obtain ⟨h1, h2⟩ := mtI_ok hL t
  apply Decidable.byContradiction
  intro q
  have := st_le (L := L) (a := M) (b := mtI L t) (by omega)
  omega
theorem mt_mono {L : List Int} {t u : Int} (hL : L.length ≤ 40) (h : t ≤ u) : mtI L t ≤ mtI L u := mt_ge hL (by have := (mtI_ok hL t).1; omega)
theorem mt_st {L : List Int} {M : Int} (hL : L.length ≤ 40) : mtI L (stI L M) = M := by
  have h1 := mt_ge hL (Int.le_refl (stI L M))
  have h2 := mt_lt hL (t := stI L M) (M := M + 1) (by have := stI_up L M; omega)
  omega
theorem mt_far {L : List Int} {t u : Int} {n : Int} (hL : L.length ≤ 40) (h : u < t + 60 * n) : mtI L u < mtI L t + n + 3 := by
  obtain ⟨h1, h2⟩ := mtI_ok hL t
  refine mt_lt hL ?_
  have b1 := lsI_b hL ((mtI L t + 1) / 1440)
  have b2 := lsI_b hL ((mtI L t + n + 3) / 1440)
  unfold stI at h2 ⊢
  omega
/-- of a second that is another minute than the one before: the minute begins with it -/
theorem mt_step {L : List Int} {u : Int} (hL : L.length ≤ 40) : mtI L (u - 1) = mtI L u ∨ (mtI L (u - 1) = mtI L u - 1 ∧ u = stI L (mtI L u)) := by
  obtain ⟨h1, h2⟩ := mtI_ok hL u
  by_cases g : stI L (mtI L u) ≤ u - 1
  · have a := mt_ge hL g
    have b := mt_mono (L := L) hL (show u - 1 ≤ u by omega)
    exact Or.inl (by omega)
  · have a := mt_lt hL (show u - 1 < stI L (mtI L u) by omega)
    have b := stI_up L (mtI L u - 1)
    rw [show mtI L u - 1 + 1 = mtI L u by omega] at b
    have c := mt_ge hL (show stI L (mtI L u - 1) ≤ u - 1 by omega)
    exact Or.inr ⟨by omega, by omega⟩
theorem tOK_lo (L : List Int) : stI L (-526984793280) = 86400 * (-365961662) + lsI L (-365961662) := by
  unfold stI
  rw [show (-526984793280 : Int) / 1440 = -365961662 by decide]
  omega
theorem tOK_hi (L : List Int) : stI L 524913079680 = 86400 * 364522972 + lsI L 364522972 := by
  unfold stI
  rw [show (524913079680 : Int) / 1440 = 364522972 by decide]
  omega
/-! a zone's offset, change by change -/
def isC (L : List Int) (e : zE) (r : rU) (u : Int) : Prop := ofF L e r u ≠ ofF L e r (u - 1)
theorem last_mem {C : List (Int × Int)} {c : Int × Int} (h : C[C.length - 1]? = some c) : c ∈ C := List.mem_of_getElem? h
theorem nil_none {C : List (Int × Int)} (h : C[C.length - 1]? = none) : C = [] := by
  cases C with
  | nil => rfl
  | cons c q =>
    have h9 := List.getElem?_eq_getElem (l := c :: q) (i := (c :: q).length - 1) (by rw [List.length_cons]; omega)
    rw [h] at h9
    cases h9
theorem byR_all {C : List (Int × Int)} {t : Int} (h : ∀ d ∈ C, d.1 ≤ t) : byR C t := by
  cases hc : C[C.length - 1]? with
  | none => exact byR_none (by rw [nil_none hc]; rfl)
  | some c => exact (byR_some hc).mpr (h c (last_mem hc))
theorem byR_lt {c : Int × Int} {C : List (Int × Int)} {t : Int} (hs : srt (c :: C)) (h : t < c.1) : ¬ byR (c :: C) t := by
  intro g
  obtain ⟨d, hd⟩ : ∃ d, (c :: C)[(c :: C).length - 1]? = some d := ⟨_, List.getElem?_eq_getElem (by rw [List.length_cons]; omega)⟩
  have h1 := (byR_some hd).mp g
  rcases List.mem_cons.mp (last_mem hd) with e | e
  · rw [e] at h1; omega
  · have := srt_head hs d e; omega
theorem byR_tail {c : Int × Int} {C : List (Int × Int)} {t : Int} (h : c.1 ≤ t) : byR (c :: C) t ↔ byR C t := by
  cases hc : C[C.length - 1]? with
  | none =>
    have h1 : C = [] := nil_none hc
    subst h1
    exact ⟨fun _ => byR_none rfl, fun _ => (byR_some (c := c) rfl).mpr h⟩
  | some d =>
    have hlt := (List.getElem?_eq_some_iff.mp hc).1
    have h2 : (c :: C)[(c :: C).length - 1]? = some d := by
      rw [List.length_cons, show C.length + 1 - 1 = (C.length - 1) + 1 by omega, List.getElem?_cons_succ]
      exact hc
    exact (byR_some h2).trans (byR_some hc).symm
theorem of_yes {L : List Int} {e : zE} {r : rU} {t : Int} (h : 0 < r.1 ∧ byR e.2 t) : ofF L e r t = roF r (mtI L t) := by unfold ofF; rw [if_pos h]
theorem of_no {L : List Int} {e : zE} {r : rU} {t : Int} (h : ¬ (0 < r.1 ∧ byR e.2 t)) : ofF L e r t = tbF e.1 e.2 t := by unfold ofF; rw [if_neg h]
theorem of_lt {L : List Int} {r : rU} {b t : Int} {c : Int × Int} {C : List (Int × Int)} (hs : srt (c :: C)) (h : t < c.1) : ofF L (b, c :: C) r t = b := by
  rw [of_no (e := (b, c :: C)) (fun g => byR_lt hs h g.2)]
  show (if c.1 ≤ t then tbF c.2 C t else b) = b
  rw [if_neg (by omega)]
theorem of_ge {L : List Int} {r : rU} {b t : Int} {c : Int × Int} {C : List (Int × Int)} (h : c.1 ≤ t) : ofF L (b, c :: C) r t = ofF L (c.2, C) r t := by
  by_cases g : 0 < r.1 ∧ byR C t
  · rw [of_yes (e := (b, c :: C)) ⟨g.1, (byR_tail h).mpr g.2⟩, of_yes (e := (c.2, C)) g]
  · rw [of_no (e := (b, c :: C)) (fun q => g ⟨q.1, (byR_tail h).mp q.2⟩), of_no (e := (c.2, C)) g]
    show (if c.1 ≤ t then tbF c.2 C t else b) = tbF c.2 C t
    rw [if_pos h]
theorem of_all {L : List Int} {e : zE} {r : rU} {t : Int} (h0 : 0 < r.1) (h : ∀ d ∈ e.2, d.1 ≤ t) : ofF L e r t = roF r (mtI L t) := of_yes ⟨h0, byR_all h⟩
theorem of_nil {L : List Int} {b : Int} {r : rU} {t : Int} (h : ¬ 0 < r.1) : ofF L (b, []) r t = b := by
  rw [of_no (e := (b, [])) (fun q => h q.1)]
  rfl
theorem bv_cons {L : List Int} {r : rU} {c : Int × Int} {n : Nat} : bvF L r c (n + 1) = c.2 := by
  unfold bvF
  rw [if_neg (fun q => by have q1 := q.1; omega)]
theorem of_bv {L : List Int} {r : rU} {b : Int} {c : Int × Int} {C : List (Int × Int)} (hs : srt (c :: C)) : ofF L (b, c :: C) r c.1 = bvF L r c C.length := by
  rw [of_ge (Int.le_refl c.1)]
  cases C with
  | nil =>
    by_cases g : 0 < r.1
    · rw [of_yes (e := (c.2, [])) ⟨g, byR_none rfl⟩]
      unfold bvF
      rw [if_pos (show ([] : List (Int × Int)).length = 0 ∧ 0 < r.1 from ⟨rfl, g⟩)]
    · rw [of_nil g]
      unfold bvF
      rw [if_neg (fun q => g (by exact q.2))]
  | cons d C =>
    rw [of_lt (srt_tail hs) (srt_head hs d List.mem_cons_self)]
    exact bv_cons.symm
theorem isC_tail {L : List Int} {r : rU} {b u : Int} {c : Int × Int} {C : List (Int × Int)} (h : c.1 < u) : isC L (b, c :: C) r u ↔ isC L (c.2, C) r u := by
  unfold isC
  rw [of_ge (show c.1 ≤ u by omega), of_ge (show c.1 ≤ u - 1 by omega)]
theorem isC_lt {L : List Int} {r : rU} {b u : Int} {c : Int × Int} {C : List (Int × Int)} (hs : srt (c :: C)) (h : u < c.1) : ¬ isC L (b, c :: C) r u := by
  unfold isC
  rw [of_lt hs h, of_lt hs (show u - 1 < c.1 by omega)]
  exact fun q => q rfl
theorem isC_at {L : List Int} {r : rU} {b : Int} {c : Int × Int} {C : List (Int × Int)} (hs : srt (c :: C)) : isC L (b, c :: C) r c.1 ↔ bvF L r c C.length ≠ b := by
  unfold isC
  rw [of_bv hs, of_lt hs (show c.1 - 1 < c.1 by omega)]
theorem cg_bv {L : List Int} {r : rU} {t : Int} {c : Int × Int} {C : List (Int × Int)} : cgF L r t (bvF L r c C.length) C = cgF L r t c.2 C := by
  cases C with
  | nil => rfl
  | cons d C => rw [show bvF L r c (d :: C).length = c.2 from bv_cons]
theorem cg_some {L : List Int} {r : rU} {t x : Int} : ∀ {C : List (Int × Int)} {b : Int}, srt C → cgF L r t b C = some x → t < x ∧ (∃ c ∈ C, c.1 = x) ∧ isC L (b, C) r x ∧ ∀ u, t < u → u < x → ¬ isC L (b, C) r u := by
  intro C
  induction C with
  | nil => intro b _ h; cases h
  | cons c C ih =>
    intro b hs h
    have h : (if t < c.1 ∧ bvF L r c C.length ≠ b then some c.1 else cgF L r t (bvF L r c C.length) C) = some x := h
    by_cases g : t < c.1 ∧ bvF L r c C.length ≠ b
    · rw [if_pos g] at h
      have hx := Option.some.inj h
      rw [← hx]
      exact ⟨g.1, ⟨c, List.mem_cons_self, rfl⟩, (isC_at hs).mpr g.2, fun u _ q => isC_lt hs q⟩
    · rw [if_neg g, cg_bv] at h
      obtain ⟨i1, ⟨d, i2, i3⟩, i4, i5⟩ := ih (srt_tail hs) h
      have hcx := srt_head hs d i2
      refine ⟨i1, ⟨d, List.mem_cons_of_mem _ i2, i3⟩, (isC_tail (by omega)).mpr i4, fun u q1 q2 => ?_⟩
      rcases Int.lt_trichotomy u c.1 with w | w | w
      · exact isC_lt hs w
      · rw [w]
        exact fun q => g ⟨by omega, (isC_at hs).mp q⟩
      · exact fun q => i5 u q1 q2 ((isC_tail w).mp q)
theorem cg_none {L : List Int} {r : rU} {t : Int} : ∀ {C : List (Int × Int)} {b : Int}, srt C → cgF L r t b C = none → ∀ u, t < u → ¬ isC L (b, C) r u ∨ (0 < r.1 ∧ ∀ d ∈ C, d.1 < u) := by
  intro C
  induction C with
  | nil =>
    intro b _ _ u _
    by_cases g : 0 < r.1
    · exact Or.inr ⟨g, fun d hd => by cases hd⟩
    · exact Or.inl (fun q => q (by rw [of_nil g, of_nil g]))
  | cons c C ih =>
    intro b hs h u hu
    have h : (if t < c.1 ∧ bvF L r c C.length ≠ b then some c.1 else cgF L r t (bvF L r c C.length) C) = none := h
    by_cases g : t < c.1 ∧ bvF L r c C.length ≠ b
    · rw [if_pos g] at h; cases h
    · rw [if_neg g, cg_bv] at h
      rcases Int.lt_trichotomy u c.1 with w | w | w
      · exact Or.inl (isC_lt hs w)
      · rw [w]
        exact Or.inl (fun q => g ⟨by omega, (isC_at hs).mp q⟩)
      · rcases ih (srt_tail hs) h u hu with i | ⟨i1, i2⟩
        · exact Or.inl (fun q => i ((isC_tail w).mp q))
        · exact Or.inr ⟨i1, fun d hd => by rcases List.mem_cons.mp hd with e | e; rw [e]; exact w; exact i2 d e⟩
/-- where a change is: a row of the table, or by the rule behind all of them -/
theorem isC_or {L : List Int} {r : rU} : ∀ {C : List (Int × Int)} {b u : Int}, srt C → isC L (b, C) r u → (∃ c ∈ C, c.1 = u) ∨ (0 < r.1 ∧ ∀ d ∈ C, d.1 < u) := by
  intro C
  induction C with
  | nil =>
    intro b u _ h
    by_cases g : 0 < r.1
    · exact Or.inr ⟨g, fun d hd => by cases hd⟩
    · exact absurd (by rw [of_nil g, of_nil g]) h
  | cons c C ih =>
    intro b u hs h
    rcases Int.lt_trichotomy u c.1 with w | w | w
    · exact absurd h (isC_lt hs w)
    · exact Or.inl ⟨c, List.mem_cons_self, w.symm⟩
    · rcases ih (srt_tail hs) ((isC_tail w).mp h) with ⟨d, i1, i2⟩ | ⟨i1, i2⟩
      · exact Or.inl ⟨d, List.mem_cons_of_mem _ i1, i2⟩
      · exact Or.inr ⟨i1, fun d hd => by rcases List.mem_cons.mp hd with e | e; rw [e]; exact w; exact i2 d e⟩
/-- the least change behind t, within 2000 days -/
def isNx (L : List Int) (e : zE) (r : rU) (t x : Int) : Prop := (x = NONEI ∧ ∀ u, t < u → u < t + 172800000 → tOK u L → ¬ isC L e r u) ∨ (x ≠ NONEI ∧ t < x ∧ x < t + 172800000 ∧ tOK x L ∧ isC L e r x ∧ ∀ u, t < u → u < x → ¬ isC L e r u)
theorem isNx_one {L : List Int} {e : zE} {r : rU} {t x x' : Int} (h : isNx L e r t x) (h' : isNx L e r t x') : x = x' := by
  rcases h with ⟨a1, a2⟩ | ⟨a1, a2, a3, a4, a5, a6⟩ <;> rcases h' with ⟨b1, b2⟩ | ⟨b1, b2, b3, b4, b5, b6⟩
  · rw [a1, b1]
  · exact absurd b5 (a2 x' b2 b3 b4)
  · exact absurd a5 (b2 x a2 a3 a4)
  · rcases Int.lt_trichotomy x x' with g | g | g
    · exact absurd a5 (b6 x a2 g)
    · exact g
    · exact absurd b5 (a6 x' b2 g)
theorem st_all {C : List (Int × Int)} {t : Int} (hs : srt C) : t ≤ stF9 C t ∧ (∀ d ∈ C, d.1 ≤ stF9 C t) ∧ (stF9 C t = t ∨ ∃ d ∈ C, d.1 = stF9 C t) := by
  cases hc : C[C.length - 1]? with
  | none =>
    have h1 : C = [] := nil_none hc
    subst h1
    exact ⟨Int.le_refl _, fun d hd => (by cases hd), Or.inl rfl⟩
  | some c =>
    rw [stF9_some hc]
    have hmx : ∀ d ∈ C, d.1 ≤ c.1 := by
      intro d hd
      obtain ⟨j, hj⟩ := List.getElem?_of_mem hd
      have hlt := (List.getElem?_eq_some_iff.mp hj).1
      by_cases e : j = C.length - 1
      · rw [e, hc] at hj; cases hj; exact Int.le_refl _
      · have := hs j (C.length - 1) d c hj hc (by omega); omega
    by_cases g : t ≤ c.1
    · rw [if_pos g]
      exact ⟨g, hmx, Or.inr ⟨c, last_mem hc, rfl⟩⟩
    · rw [if_neg g]
      exact ⟨Int.le_refl _, fun d hd => by have := hmx d hd; omega, Or.inl rfl⟩
/-- the class's next change: the least one behind t, or there is none for 2000 days -/
def isZ (L : List Int) (e : zE) (r : rU) (t x : Int) : Prop := (x = NONEI ∧ ∀ u, t < u → u < t + 172800000 → tOK u L → ¬ isC L e r u) ∨ (x ≠ NONEI ∧ t < x ∧ tOK x L ∧ isC L e r x ∧ ∀ u, t < u → u < x → ¬ isC L e r u)
theorem zb_ok {L : List Int} {e : zE} {r : rU} {t : Int} (hL : L.length ≤ 40) (hW : rW r) (hs : srt e.2) (hB : ∀ c ∈ e.2, oOK c.2 ∧ -31700000000000 ≤ c.1 ∧ c.1 ≤ 31700000000000) (hT : ∀ c ∈ e.2, tOK c.1 L) (ht1 : stI L (-526984793280) - 1 ≤ t) (ht2 : t ≤ 31700000000000) : isZ L e r t (zbF L e r t) := by
  have nx_in : ∀ x, zbF L e r t = x → x ≠ NONEI → t < x → tOK x L → isC L e r x → (∀ u, t < u → u < x → ¬ isC L e r u) → isZ L e r t (zbF L e r t) := fun x h1 h2 h3 h4 h5 h6 => by rw [h1]; exact Or.inr ⟨h2, h3, h4, h5, h6⟩
  have nx_no : zbF L e r t = NONEI → (∀ u, t < u → u < t + 172800000 → tOK u L → ¬ isC L e r u) → isZ L e r t (zbF L e r t) := fun h1 h2 => Or.inl ⟨h1, h2⟩
  have hlb := lsI_b hL ((-526984793280) / 1440)
  have ht3 : -31700000000000 ≤ t := by unfold stI at ht1; omega
  obtain ⟨b, C⟩ := e
  have hs : srt C := hs
  have hB : ∀ c ∈ C, oOK c.2 ∧ -31700000000000 ≤ c.1 ∧ c.1 ≤ 31700000000000 := hB
  have hT : ∀ c ∈ C, tOK c.1 L := hT
  cases hcg : cgF L r t b C with
  | some x =>
    obtain ⟨i1, ⟨c, i2, i3⟩, i4, i5⟩ := cg_some hs hcg
    have hb := hB c i2
    have ht9 := hT c i2
    rw [i3] at ht9
    exact nx_in x (zbF_some (e := (b, C)) hcg) (by unfold NONEI; omega) i1 ht9 i4 i5
  | none =>
    have hno := cg_none hs hcg
    by_cases h0 : r.1 ≤ 0
    · refine nx_no (zbF_none0 (e := (b, C)) hcg h0) (fun u q1 _ _ => ?_)
      rcases hno u q1 with g | g
      · exact g
      · have := g.1; omega
    · have hz : zbF L (b, C) r t = znF L (cbF r (mtI L (stF9 C t))) := zbF_none (e := (b, C)) hcg h0
      obtain ⟨s1, s2, s3⟩ := st_all (C := C) (t := t) hs
      generalize stF9 C t = S at hz s1 s2 s3
      have hlow : ∀ u, t < u → u ≤ S → ¬ isC L (b, C) r u := by
        intro u q1 q2
        rcases hno u q1 with g | ⟨-, g⟩
        · exact g
        · rcases s3 with w | ⟨d, w1, w2⟩
          · omega
          · have := g d w1; omega
      have hval : ∀ u, S ≤ u → ofF L (b, C) r u = roF r (mtI L u) := fun u q => of_all (by omega) (fun d hd => by have := s2 d hd; omega)
      by_cases h1 : r.1 ≤ 1
      · have e1 : cbF r (mtI L S) = NONEI := by unfold cbF; rw [if_pos h1]
        refine nx_no (by rw [hz, e1]; unfold znF; rw [if_pos (Or.inl rfl)]) (fun u q1 _ _ => ?_)
        by_cases q : u ≤ S
        · exact hlow u q1 q
        · exact fun w => w (by rw [hval u (by omega), hval (u - 1) (by omega), ro_one h1, ro_one h1])
      · have h2 : r.1 = 2 := by have := hW.2.1; omega
        have hSb : -31800000000000 ≤ S ∧ S ≤ 31800000000000 := by
          rcases s3 with w | ⟨d, w1, w2⟩
          · omega
          · have := hB d w1; omega
        have hMb := mtI_bd hL (t := S) (by omega) (by omega)
        have hSlo : -526984793281 ≤ mtI L S := mt_ge hL (by have := stI_up L (-526984793281); rw [show (-526984793281 : Int) + 1 = -526984793280 by decide] at this; omega)
        have hsame : ∀ u m, S < u → (∀ w, mtI L S ≤ w → w < m → roF r w = roF r (mtI L S)) → mtI L u < m → ¬ isC L (b, C) r u := by
          intro u m q1 q2 q3 w
          have a1 := mt_mono (L := L) hL (show S ≤ u - 1 by omega)
          have a2 := mt_mono (L := L) hL (show u - 1 ≤ u by omega)
          exact w (by rw [hval u (by omega), hval (u - 1) (by omega), q2 (mtI L u) (by omega) q3, q2 (mtI L (u - 1)) a1 (by omega)])
        rcases cb_ok hW h2 (m0 := mtI L S) (by omega) (by omega) with ⟨g1, g2⟩ | ⟨g1, g2, g3, g4⟩
        · refine nx_no (by rw [hz, g1]; unfold znF; rw [if_pos (Or.inl rfl)]) (fun u q1 q2 _ => ?_)
          by_cases q : u ≤ S
          · exact hlow u q1 q
          · have hf := mt_far hL (t := S) (u := u) (n := 2880000) (by omega)
            exact hsame u _ (by omega) g2 (by omega)
        · generalize cbF r (mtI L S) = m1 at hz g1 g2 g3 g4
          by_cases hin : mIn m1
          · have hzx : zbF L (b, C) r t = stI L m1 := by
              rw [hz]; unfold znF
              rw [if_neg (fun w => by rcases w with w | w; exact g1 w; exact w hin)]
            have n1 := hin.1
            have n2 := hin.2
            have l1 := lsI_b hL (m1 / 1440)
            have u1 := stI_up L (m1 - 1)
            rw [show m1 - 1 + 1 = m1 by omega] at u1
            obtain ⟨k1, k2⟩ := mtI_ok hL S
            have u2 := st_le (L := L) (a := mtI L S + 1) (b := m1) (by omega)
            have e1 : mtI L (stI L m1) = m1 := mt_st hL
            have e2 : mtI L (stI L m1 - 1) < m1 := mt_lt hL (by omega)
            have e3 := mt_mono (L := L) hL (show S ≤ stI L m1 - 1 by omega)
            refine nx_in _ hzx (by unfold NONEI stI; omega) (by omega) ⟨?_, ?_⟩ ?_ (fun u q1 q2 => ?_)
            · rw [← tOK_lo]; exact st_le n1
            · rw [← tOK_hi]
              have v1 := stI_up L 524913079679
              rw [show (524913079679 : Int) + 1 = 524913079680 by decide] at v1
              have v2 := st_le (L := L) n2
              omega
            · unfold isC
              rw [hval _ (by omega), hval _ (by omega), e1, g4 _ e3 e2]
              exact g3
            · by_cases q : u ≤ S
              · exact hlow u q1 q
              · exact hsame u m1 (by omega) g4 (mt_lt hL q2)
          · refine nx_no (by rw [hz]; unfold znF; rw [if_pos (Or.inr hin)]) (fun u q1 q2 q3 => ?_)
            by_cases q : u ≤ S
            · exact hlow u q1 q
            · refine hsame u m1 (by omega) g4 ?_
              have a1 : mtI L u < 524913079680 := mt_lt hL (by rw [tOK_hi]; exact q3.2)
              apply Decidable.byContradiction
              intro w
              exact hin ⟨by omega, by omega⟩
theorem nx_isN {L : List Int} {e : zE} {r : rU} {t : Int} (hL : L.length ≤ 40) (hW : rW r) (hs : srt e.2) (hB : ∀ c ∈ e.2, oOK c.2 ∧ -31700000000000 ≤ c.1 ∧ c.1 ≤ 31700000000000) (hT : ∀ c ∈ e.2, tOK c.1 L) (ht : tOK t L) : isNx L e r t (nxF L e r t) := by
  have l2 := lsI_b hL 364522972
  have t1 := ht.1
  have t2 := ht.2
  rw [← tOK_lo] at t1
  have h := zb_ok (e := e) (t := t) hL hW hs hB hT (by omega) (by omega)
  unfold nxF
  rcases h with ⟨h1, h2⟩ | ⟨h1, h2, h3, h4, h5⟩
  · rw [if_pos (Or.inl h1)]
    exact Or.inl ⟨rfl, h2⟩
  · by_cases g : zbF L e r t = NONEI ∨ 172800000 ≤ zbF L e r t - t
    · rw [if_pos g]
      exact Or.inl ⟨rfl, fun u q1 q2 _ => h5 u q1 (by rcases g with g | g; exact absurd g h1; omega)⟩
    · rw [if_neg g]
      exact Or.inr ⟨h1, h2, by apply Decidable.byContradiction; intro q; exact g (Or.inr (by omega)), h3, h4, h5⟩
/-! the reference's list -/
def bgC (L : List Int) (e : zE) (r : rU) (ab be u : Int) : Prop := ab < u ∧ u < be ∧ tOK u L ∧ tOK (u - 1) L ∧ isC L e r u
/-- what the reference looks at: the rows of the table, and of eleven years the rule's edges -/
def edY (L : List Int) (r : rU) (y x : Int) : Prop := x = stI L (fmF r y) ∨ x = stI L (tmF r y) ∨ x = stI L (ymF r y)
def cdG (L : List Int) (e : zE) (r : rU) (ab x : Int) : Prop := (∃ c ∈ e.2, c.1 = x) ∨ (r.1 = 2 ∧ ∃ y, yoF r (mtI L ab) - 2 ≤ y ∧ y < yoF r (mtI L ab) + 9 ∧ edY L r y x)
def mnF (B : List Int) : Int := B.foldl (fun b x => if b = NONEI ∨ x < b then x else b) NONEI
theorem mn_key : ∀ (B : List Int) (b : Int), (∀ x ∈ B, x ≠ NONEI) → b ≠ NONEI → B.foldl (fun b x => if b = NONEI ∨ x < b then x else b) b ≠ NONEI ∧ (B.foldl (fun b x => if b = NONEI ∨ x < b then x else b) b = b ∨ B.foldl (fun b x => if b = NONEI ∨ x < b then x else b) b ∈ B) ∧ B.foldl (fun b x => if b = NONEI ∨ x < b then x else b) b ≤ b ∧ ∀ x ∈ B, B.foldl (fun b x => if b = NONEI ∨ x < b then x else b) b ≤ x := by
  intro B
  induction B with
  | nil => intro b _ hb; exact ⟨hb, Or.inl rfl, Int.le_refl _, fun x hx => by cases hx⟩
  | cons y B ih =>
    intro b hB hb
    have hy := hB y List.mem_cons_self
    show List.foldl (fun b x => if b = NONEI ∨ x < b then x else b) (if b = NONEI ∨ y < b then y else b) B ≠ NONEI ∧ (List.foldl (fun b x => if b = NONEI ∨ x < b then x else b) (if b = NONEI ∨ y < b then y else b) B = b ∨ List.foldl (fun b x => if b = NONEI ∨ x < b then x else b) (if b = NONEI ∨ y < b then y else b) B ∈ y :: B) ∧ List.foldl (fun b x => if b = NONEI ∨ x < b then x else b) (if b = NONEI ∨ y < b then y else b) B ≤ b ∧ ∀ x ∈ y :: B, List.foldl (fun b x => if b = NONEI ∨ x < b then x else b) (if b = NONEI ∨ y < b then y else b) B ≤ x
    by_cases g : b = NONEI ∨ y < b
    · rw [if_pos g]
      have g1 : y < b := by rcases g with g | g; exact absurd g hb; exact g
      obtain ⟨i1, i2, i3, i4⟩ := ih y (fun x hx => hB x (List.mem_cons_of_mem _ hx)) hy
      refine ⟨i1, Or.inr ?_, by omega, fun x hx => ?_⟩
      · rcases i2 with e | e
        · rw [e]; exact List.mem_cons_self
        · exact List.mem_cons_of_mem _ e
      · rcases List.mem_cons.mp hx with e | e
        · rw [e]; exact i3
        · exact i4 x e
    · rw [if_neg g]
      have g1 : ¬ y < b := fun q => g (Or.inr q)
      obtain ⟨i1, i2, i3, i4⟩ := ih b (fun x hx => hB x (List.mem_cons_of_mem _ hx)) hb
      refine ⟨i1, ?_, i3, fun x hx => ?_⟩
      · rcases i2 with e | e
        · exact Or.inl e
        · exact Or.inr (List.mem_cons_of_mem _ e)
      · rcases List.mem_cons.mp hx with e | e
        · rw [e]; omega
        · exact i4 x e
theorem mn_ok {B : List Int} (hB : ∀ x ∈ B, x ≠ NONEI) : (B = [] ∧ mnF B = NONEI) ∨ (mnF B ≠ NONEI ∧ mnF B ∈ B ∧ ∀ x ∈ B, mnF B ≤ x) := by
  cases B with
  | nil => exact Or.inl ⟨rfl, rfl⟩
  | cons y B =>
    have hy := hB y List.mem_cons_self
    have e : mnF (y :: B) = B.foldl (fun b x => if b = NONEI ∨ x < b then x else b) y := by
      show List.foldl (fun b x => if b = NONEI ∨ x < b then x else b) (if NONEI = NONEI ∨ y < NONEI then y else NONEI) B = _
      rw [if_pos (Or.inl rfl)]
    obtain ⟨i1, i2, i3, i4⟩ := mn_key B y (fun x hx => hB x (List.mem_cons_of_mem _ hx)) hy
    rw [← e] at i1 i2 i3 i4
    refine Or.inr ⟨i1, ?_, fun x hx => ?_⟩
    · rcases i2 with q | q
      · rw [q]; exact List.mem_cons_self
      · exact List.mem_cons_of_mem _ q
    · rcases List.mem_cons.mp hx with q | q
      · rw [q]; exact i3
      · exact i4 x q
theorem isC_cd {L : List Int} {e : zE} {r : rU} {t u : Int} (hL : L.length ≤ 40) (hW : rW r) (hs : srt e.2) (h1 : t < u) (h2 : u < t + 172800000) (h : isC L e r u) : cdG L e r t u := by
  obtain ⟨b, C⟩ := e
  have hs : srt C := hs
  rcases isC_or hs h with g | ⟨g0, g⟩
  · exact Or.inl g
  · have v1 : ofF L (b, C) r u = roF r (mtI L u) := of_all g0 (fun d hd => by have := g d hd; omega)
    have v2 : ofF L (b, C) r (u - 1) = roF r (mtI L (u - 1)) := of_all g0 (fun d hd => by have := g d hd; omega)
    unfold isC at h
    rw [v1, v2] at h
    by_cases q1 : r.1 ≤ 1
    · rw [ro_one q1, ro_one q1] at h
      exact absurd rfl h
    · have q2 : r.1 = 2 := by have := hW.2.1; omega
      rcases mt_step (L := L) (u := u) hL with w | ⟨w1, w2⟩
      · rw [w] at h
        exact absurd rfl h
      · rw [w1] at h
        have ha := mt_mono (L := L) hL (show t ≤ u by omega)
        have hf := mt_far hL (t := t) (u := u) (n := 2880000) (by omega)
        obtain ⟨y1, y2⟩ := yo_in r (mtI L t)
        obtain ⟨y3, y4⟩ := yo_in r (mtI L u)
        have he := ro_edge (by omega) h
        refine Or.inr ⟨q2, yoF r (mtI L u), ?_, ?_, ?_⟩
        · apply Decidable.byContradiction
          intro q
          have := ym_mono (r := r) (y := yoF r (mtI L u) + 1) (y' := yoF r (mtI L t)) (by omega)
          omega
        · apply Decidable.byContradiction
          intro q
          have := ym_mono (r := r) (y := yoF r (mtI L t) + 1) (y' := yoF r (mtI L u)) (by omega)
          omega
        · rcases he with k | k | k
          · exact Or.inr (Or.inr (by rw [← k]; exact w2))
          · exact Or.inl (by rw [← k]; exact w2)
          · exact Or.inr (Or.inl (by rw [← k]; exact w2))
theorem tOK_ne {L : List Int} {x : Int} (hL : L.length ≤ 40) (h : tOK x L) : x ≠ NONEI := by
  have l1 := lsI_b hL (-365961662)
  unfold tOK at h
  unfold NONEI
  omega
theorem ref_isN {L : List Int} {e : zE} {r : rU} {t : Int} {B : List Int} (hL : L.length ≤ 40) (hW : rW r) (hs : srt e.2) (ht : tOK t L) (hB : ∀ x, x ∈ B ↔ cdG L e r t x ∧ bgC L e r t (t + 172800000) x) : isNx L e r t (mnF B) := by
  have hin : ∀ u, t < u → u < t + 172800000 → tOK u L → isC L e r u → u ∈ B := fun u q1 q2 q3 q4 => (hB u).mpr ⟨isC_cd hL hW hs q1 q2 q4, q1, q2, q3, ⟨by have := ht.1; omega, by have := q3.2; omega⟩, q4⟩
  rcases mn_ok (fun x hx => tOK_ne hL ((hB x).mp hx).2.2.2.1) with ⟨g1, g2⟩ | ⟨g1, g2, g3⟩
  · refine Or.inl ⟨g2, fun u q1 q2 q3 q4 => ?_⟩
    have := hin u q1 q2 q3 q4
    rw [g1] at this
    cases this
  · obtain ⟨-, c1, c2, c3, c4, c5⟩ := (hB _).mp g2
    refine Or.inr ⟨g1, c1, c2, c3, c5, fun u q1 q2 q4 => ?_⟩
    have := g3 u (hin u q1 (by omega) ⟨by have := ht.1; omega, by have := c3.2; omega⟩ q4)
    omega
theorem nx_ref {L : List Int} {e : zE} {r : rU} {t : Int} {B : List Int} (hL : L.length ≤ 40) (hW : rW r) (hs : srt e.2) (hC : ∀ c ∈ e.2, oOK c.2 ∧ -31700000000000 ≤ c.1 ∧ c.1 ≤ 31700000000000) (hT : ∀ c ∈ e.2, tOK c.1 L) (ht : tOK t L) (hB : ∀ x, x ∈ B ↔ cdG L e r t x ∧ bgC L e r t (t + 172800000) x) : mnF B = nxF L e r t := isNx_one (ref_isN hL hW hs ht hB) (nx_isN hL hW hs hC hT ht)

/-! p19: the reference's words, on: durations, intervals, what is looked at -/
section GA
variable {T L : List Int}
theorem vOK_dc (m : Nat) : ∀ {v n : Int} {r : uS}, vOK T r → vOK T (dcL T m v n r).2 := by
  induction m with
  | zero => intro v n r h; exact h
  | succ m ih =>
    intro v n r h
    show vOK T (if _ then _ else _ : (Int × Int) × uS).2
    split
    · rename_i q; exact ih (adG_ok h (isD_nn q))
    · exact h
theorem dd_ok {x : gsS} (h : vOK T x.2) : vOK T (ddG T x).2.2 ∧ (ddG T x).2.1 0 = x.1 0 := by
  unfold ddG
  split
  · rename_i q
    exact ⟨vOK_paG (adG_ok h (by rcases q with q | q <;> omega)), rfl⟩
  · exact ⟨h, rfl⟩
theorem dl_ok {tm nx fi dot : Int} {x : gsS} (h : vOK T x.2) (hn : 0 ≤ nx) : vOK T (dlG T tm nx fi dot x).2.2 ∧ (dlG T tm nx fi dot x).2.1 0 = x.1 0 ∧ 0 ≤ (dlG T tm nx fi dot x).1.2 := by
  unfold dlG
  by_cases c1 : ¬ x.2.2.1 < 0
  · rw [if_pos c1]; exact ⟨h, rfl, Int.le_refl 0⟩
  · rw [if_neg c1]
    by_cases c2 : fi = 1 ∧ tm = 0 ∧ dot < 0 ∧ byI T x.2.1 = 87
    · rw [if_pos c2]; exact ⟨adG_ok h (by omega), rfl, Int.le_refl 0⟩
    · rw [if_neg c2]
      by_cases c3 : lpG (byI T x.2.1) tm < nx
      · rw [if_pos c3]; exact ⟨flG_ok h, rfl, Int.le_refl 0⟩
      · rw [if_neg c3]
        have hb : 0 ≤ byI T x.2.1 := lp_nn (tm := tm) (by omega)
        by_cases c4 : 0 ≤ dot
        · rw [if_pos c4]
          refine ⟨?_, rfl, Int.le_refl 0⟩
          show vOK T (if _ then _ else _ : uS)
          split
          · exact bdG_ok (adG_ok h hb)
          · exact adG_ok h hb
        · rw [if_neg c4]
          exact ⟨adG_ok h hb, rfl, by show 0 ≤ lpG _ _; omega⟩
theorem dn_ok {tm nx fi : Int} {x : gsS} (h : vOK T x.2) (hn : 0 ≤ nx) : vOK T (dnG T tm nx fi x).2.2 ∧ (dnG T tm nx fi x).2.1 0 = x.1 0 ∧ 0 ≤ (dnG T tm nx fi x).1.2 := by
  have d := vOK_dc (T := T) 9 (v := 0) (n := 0) h
  unfold dnG
  by_cases c : (dcL T 9 0 0 x.2).1.2 = 0
  · rw [if_pos c]; exact ⟨flG_ok d, rfl, Int.le_refl 0⟩
  · rw [if_neg c]
    have e := dd_ok (T := T) (x := (x.1, (dcL T 9 0 0 x.2).2)) d
    have k := dl_ok (T := T) (tm := tm) (nx := nx) (fi := fi) (dot := (ddG T (x.1, (dcL T 9 0 0 x.2).2)).1) e.1 hn
    exact ⟨k.1, k.2.1.trans e.2, k.2.2⟩
theorem duLG_ok (k : Nat) : ∀ {tm nx fi : Int} {x : gsS}, vOK T x.2 → 0 ≤ nx → vOK T (duLG T k tm nx fi x).2 ∧ (duLG T k tm nx fi x).1 0 = x.1 0 := by
  induction k with
  | zero => intro tm nx fi x h _; exact ⟨h, rfl⟩
  | succ k ih =>
    intro tm nx fi x h hn
    have d := dn_ok (T := T) (tm := tm) (nx := nx) (fi := fi) h hn
    show vOK T (if _ then _ else _ : gsS).2 ∧ (if _ then _ else _ : gsS).1 0 = x.1 0
    by_cases c1 : x.2.2.1 < 0
    · rw [if_pos c1]
      by_cases c2 : (dnG T tm nx fi x).1.1 = 1
      · rw [if_pos c2]; exact ⟨d.1, d.2.1⟩
      · rw [if_neg c2]
        by_cases c3 : tm = 0 ∧ byI T (dnG T tm nx fi x).2.2.1 = 84
        · rw [if_pos c3]
          have e := ih (tm := 1) (nx := 3) (fi := 0) (x := ad1 (dnG T tm nx fi x).2) (adG_ok d.1 (by omega)) (by decide)
          exact ⟨e.1, e.2.trans d.2.1⟩
        · rw [if_neg c3]
          by_cases c4 : isD (byI T (dnG T tm nx fi x).2.2.1) ∧ (dnG T tm nx fi x).1.2 + 1 < (if tm = 1 then 6 else 3)
          · rw [if_pos c4]
            have e := ih (tm := tm) (nx := (dnG T tm nx fi x).1.2 + 1) (fi := 0) (x := (dnG T tm nx fi x).2) d.1 (by have := d.2.2; omega)
            exact ⟨e.1, e.2.trans d.2.1⟩
          · rw [if_neg c4]; exact ⟨d.1, d.2.1⟩
    · rw [if_neg c1]; exact ⟨h, rfl⟩
theorem du_ok {r : uS} (h : vOK T r) : vOK T (duG T r).2 ∧ (duG T r).1 0 = 4 := by
  have a := vOK_ex (T := T) (c := 80) (by decide) h
  have b := vOK_tk (T := T) (c := 84) (by decide) a
  unfold duG du0G
  dsimp only
  split
  · have e := duLG_ok (T := T) 7 (tm := 1) (nx := 3) (fi := 1) (x := (upF (clG 4) 15 (-1), (tkG T 84 (exG T 80 r)).2)) b (by decide)
    exact ⟨e.1, e.2.trans (show upF (clG 4) 15 (-1) 0 = 4 from rfl)⟩
  · have e := duLG_ok (T := T) 7 (tm := 0) (nx := 0) (fi := 1) (x := (upF (clG 4) 15 (-1), (tkG T 84 (exG T 80 r)).2)) b (by decide)
    exact ⟨e.1, e.2.trans (show upF (clG 4) 15 (-1) 0 = 4 from rfl)⟩
/-- a part that is looked at has its bounds -/
def gQ (g : fN) : Prop := g 0 ≠ 4 → gBq g
theorem du_gQ {r : uS} (h : vOK T r) : gQ (duG T r).1 := fun q => absurd (du_ok h).2 q
theorem rb_gQ {r : uS} (hT : (T.length : Int) ≤ 120) (h : vOK T r) : gQ (rbG T r).1 := fun _ => (rb_gO hT h).1
theorem in_gQ {r : uS} (hT : (T.length : Int) ≤ 120) (h : vOK T r) : gQ (inG T r).1 ∧ gQ (inG T r).2.1 := by
  unfold inG
  split
  · exact ⟨du_gQ h, rb_gQ hT (vOK_ex (by decide) (du_ok h).1)⟩
  · have e := vOK_ex (T := T) (c := 47) (by decide) (rb_gO hT h).2
    split
    · exact ⟨rb_gQ hT h, du_gQ e⟩
    · exact ⟨rb_gQ hT h, rb_gQ hT e⟩
theorem ldh_01 (g : fN) : (ldh g = 1 ∧ -365961662 ≤ ldD g ∧ ldD g ≤ 364522971) ∨ ldh g = 0 := by
  unfold ldh
  split
  · rename_i q; exact Or.inl ⟨rfl, q⟩
  · exact Or.inr rfl
theorem ldHx_01 (g : fN) : (ldHx g = 1 ∧ -365961662 ≤ ldD g ∧ ldD g ≤ 364522971) ∨ ldHx g = 0 := by
  unfold ldHx
  (repeat' split) <;> first | exact Or.inr rfl | exact ldh_01 g
theorem ltB_dy {g : fN} {dy b : Int} (h : ldHx g = 1 → dy = ldD g) : ltB L g (ldHx g) dy b = ltB L g (ldHx g) (ldD g) b := by
  rcases ldHx_01 g with e | e
  · rw [h e.1]
  · rw [e]
    unfold ltB lt5 lt1 ltLate ltSix
    simp
theorem rdG_any {fo : Int} {g0 g1 h0 h1 : fN} (hL : ∀ d ∈ L, -365961662 ≤ d ∧ d ≤ 364522971) (hT : (T.length : Int) ≤ 120) : rdG T L fo g0 g1 = rdG T L fo h0 h1 := (rd_same (fd := g0) (ft := g0) hL hT).symm.trans (rd_same hL hT)
end GA

/-! p19: the reference's words stay within bounds -/
section GB
variable {T : List Int}
theorem vOK_dg (n : Nat) : ∀ {v : Int} {r : uS}, vOK T r → vOK T (dgG T n v r).2 := by
  induction n with
  | zero => intro v r h; exact h
  | succ n ih =>
    intro v r h
    show vOK T (if _ then (if _ then _ else _) else _ : Int × uS).2
    split
    · split
      · rename_i q; exact ih (adG_ok h (isD_nn q))
      · exact ih (flG_ok h)
    · exact h
theorem vOK_tk {c : Int} {r : uS} (hc : 0 ≤ c) (h : vOK T r) : vOK T (tkG T c r).2 := by
  unfold tkG
  split
  · rename_i q; exact adG_ok h (by rw [q.2]; exact hc)
  · exact h
theorem vOK_ex {c : Int} {r : uS} (hc : 0 ≤ c) (h : vOK T r) : vOK T (exG T c r) := by
  unfold exG
  split
  · split
    · exact vOK_tk hc h
    · exact flG_ok (vOK_tk hc h)
  · exact h
theorem vOK_pa (m : Nat) : ∀ {v n : Int} {r : uS}, vOK T r → vOK T (paL T m v n r).2 := by
  induction m with
  | zero => intro v n r h; exact h
  | succ m ih =>
    intro v n r h
    show vOK T (if _ then _ else _ : (Int × Int) × uS).2
    split
    · rename_i q; exact ih (adG_ok h (isD_nn q.2))
    · exact h
theorem pa_bd (m : Nat) : ∀ {v : Int} {k : Nat} {r : uS}, 0 ≤ v → v ≤ nB (min k 9) → ∃ k' : Nat, (paL T m v k r).1.2 = (k' : Int) ∧ 0 ≤ (paL T m v k r).1.1 ∧ (paL T m v k r).1.1 ≤ nB (min k' 9) := by
  induction m with
  | zero => intro v k r h0 h; exact ⟨k, rfl, h0, h⟩
  | succ m ih =>
    intro v k r h0 h
    have e : paL T (m + 1) v k r = if r.2.1 < 0 ∧ isD (byI T r.1) then paL T m (if (k : Int) < 9 then 10 * v + byI T r.1 - 48 else v) ((k : Int) + 1) (r.1 + 1, r.2) else ((v, (k : Int)), r) := rfl
    rw [e]
    split
    · rename_i q
      have q1 := q.2
      unfold isD at q1
      by_cases c : (k : Int) < 9
      · rw [if_pos c]
        have := ih (v := 10 * v + byI T r.1 - 48) (k := k + 1) (r := (r.1 + 1, r.2)) (by omega) (by rw [show min (k + 1) 9 = min k 9 + 1 by omega]; show _ ≤ nB (min k 9) * 10 + 9; omega)
        exact this
      · rw [if_neg c]
        have := ih (v := v) (k := k + 1) (r := (r.1 + 1, r.2)) h0 (by rw [show min (k + 1) 9 = min k 9 by omega]; exact h)
        exact this
    · exact ⟨k, rfl, h0, h⟩
theorem paG_bd (r : uS) : 0 ≤ (paG T r).1 ∧ (paG T r).1 ≤ 999999999 := by
  obtain ⟨k, k1, k2, k3⟩ := pa_bd (T := T) 120 (v := 0) (k := 0) (r := r) (by decide) (by decide)
  have k1 : (paL T 120 0 0 r).1.2 = (k : Int) := k1
  have k2 : 0 ≤ (paL T 120 0 0 r).1.1 := k2
  have k3 : (paL T 120 0 0 r).1.1 ≤ nB (min k 9) := k3
  show 0 ≤ tenF (9 - (paL T 120 0 0 r).1.2.toNat) _ ∧ tenF (9 - (paL T 120 0 0 r).1.2.toNat) _ ≤ 999999999
  rw [k1]
  have := tenF_bd (9 - ((k : Int)).toNat) k2 k3
  rw [show min k 9 + (9 - ((k : Int)).toNat) = 9 by omega] at this
  exact ⟨this.1, Int.le_trans this.2 (by decide)⟩
theorem vOK_paG {r : uS} (h : vOK T r) : vOK T (paG T r).2 := by
  unfold paG
  dsimp only
  split
  · exact flG_ok (vOK_pa 120 h)
  · exact vOK_pa 120 h
def gO (T : List Int) (x : gsS) : Prop := gBq x.1 ∧ vOK T x.2
theorem gBq.up {g : fN} {k : Nat} {v : Int} (h : gBq g) (hk : k ≠ 1 ∧ k ≠ 2) (hv : -999999999 ≤ v ∧ v ≤ 999999999) : gBq (upF g k v) := by
  obtain ⟨h1, h2, h3⟩ := h
  refine ⟨fun j hj => ?_, by rw [up_ne (show (2 : Nat) ≠ k by omega)]; exact h2, by rw [up_ne (show (1 : Nat) ≠ k by omega)]; exact h3⟩
  by_cases e : j = k
  · rw [e, up_eq]; exact hv
  · rw [up_ne e]; exact h1 j hj
theorem gBq.up1 {g : fN} {v : Int} (h : gBq g) (hv : -1 ≤ v ∧ v ≤ 5) : gBq (upF g 1 v) := by
  obtain ⟨h1, h2, h3⟩ := h
  refine ⟨fun j hj => ?_, by rw [up_ne (show (2 : Nat) ≠ 1 by decide)]; exact h2, by rw [up_eq]; exact hv⟩
  by_cases e : j = 1
  · rw [e, up_eq]; omega
  · rw [up_ne e]; exact h1 j hj
theorem gBq.up2 {g : fN} {v : Int} (h : gBq g) (hv : -999999 ≤ v ∧ v ≤ 999999) : gBq (upF g 2 v) := by
  obtain ⟨h1, h2, h3⟩ := h
  refine ⟨fun j hj => ?_, by rw [up_eq]; exact hv, by rw [up_ne (show (1 : Nat) ≠ 2 by decide)]; exact h3⟩
  by_cases e : j = 2
  · rw [e, up_eq]; omega
  · rw [up_ne e]; exact h1 j hj
theorem gB_cl {fo : Int} (h : 0 ≤ fo ∧ fo ≤ 9) : gBq (clG fo) := by
  refine ⟨fun k _ => ?_, by simp [clG], by simp [clG]⟩
  unfold clG
  split
  · decide
  · split
    · omega
    · decide
variable (hT : (T.length : Int) ≤ 120)
theorem nu_gO {k n : Nat} {x : gsS} (hT : (T.length : Int) ≤ 120) (h : gO T x) (hk : 3 ≤ k) (hn : n = 1 ∨ n = 2 ∨ n = 3) : gO T (nuG T k n x) := by
  have v := h.2
  unfold vOK at v
  have b : 0 ≤ (dgG T n 0 x.2).1 ∧ (dgG T n 0 x.2).1 ≤ 999 := by
    have := dgG_up (T := T) n (v := 0) (M := 0) (r := x.2) (by decide) (by decide)
    rcases hn with e | e | e <;> subst e <;> exact ⟨this.1, Int.le_trans this.2 (by decide)⟩
  exact ⟨(h.1.up (by omega) (by omega)).up (by omega) (by omega), vOK_dg n h.2⟩
theorem ad_gO {x : gsS} (h : gO T x) (hb : 0 ≤ byI T x.2.1) : gO T (ad1 x) := ⟨h.1, adG_ok h.2 hb⟩
theorem ex_gO {c : Int} {x : gsS} (hc : 0 ≤ c) (h : gO T x) : gO T (exS T c x) := ⟨h.1, vOK_ex hc h.2⟩
theorem yr_gO {x : gsS} (hT : (T.length : Int) ≤ 120) (h : gO T x) : gO T (yrG T x) := by
  have v := h.2
  have b : vOK T (yqG T x.2).2 ∧ 0 ≤ (yqG T x.2).1 ∧ (yqG T x.2).1 ≤ 999999 := by
    have s : vOK T (sgA T x.2) := by
      unfold sgA
      split
      · rename_i q
        refine adG_ok v ?_
        have := q.1
        unfold sdI at this
        split at this
        · rename_i r; rcases r with r | r <;> omega
        · cases this
      · exact v
    unfold yqG
    split
    · have := dgG_up (T := T) 6 (v := 0) (M := 0) (r := sgA T x.2) (by decide) (by decide)
      exact ⟨vOK_dg 6 s, this.1, Int.le_trans this.2 (by decide)⟩
    · have := dgG_up (T := T) 4 (v := 0) (M := 0) (r := sgA T x.2) (by decide) (by decide)
      exact ⟨vOK_dg 4 s, this.1, Int.le_trans this.2 (by decide)⟩
  unfold vOK at v
  refine ⟨((h.1.up (by decide) (by omega)).up2 ?_).up1 (by decide), ?_⟩
  · split <;> omega
  · show vOK T (yzG _ _ _)
    unfold yzG
    split
    · exact bdG_ok b.1
    · exact b.1
theorem dr_gO {wh : Int} {x : gsS} (hT : (T.length : Int) ≤ 120) (h : gO T x) : gO T (drG T wh x) := by
  have y := yr_gO hT h
  have y2 : gO T ((yrG T x).1, (tkG T 45 (yrG T x).2).2) := ⟨y.1, vOK_tk (by decide) y.2⟩
  unfold drG
  generalize ((yrG T x).1, (tkG T 45 (yrG T x).2).2) = X at y2
  generalize hdG T x = hd
  generalize sdI T x.2 = sd
  unfold beG
  split
  · split
    · rename_i q
      have a : gO T (wk1G T (ad1 X)) := nu_gO (x := (upF (ad1 X).1 1 5, (ad1 X).2)) hT ⟨(ad_gO y2 (by rw [q.2]; decide)).1.up1 (by decide), (ad_gO y2 (by rw [q.2]; decide)).2⟩ (by decide) (Or.inr (Or.inl rfl))
      unfold wkG
      split
      · unfold wk2G
        refine nu_gO hT ⟨a.1.up1 (by decide), ?_⟩ (by decide) (Or.inl rfl)
        dsimp only
        split
        · exact vOK_ex (by decide) a.2
        · exact a.2
      · exact a
    · split
      · have a : gO T (da1G T X) := ⟨(nu_gO hT y2 (by decide) (Or.inr (Or.inl rfl))).1.up1 (by decide), (nu_gO (k := 4) (n := 2) hT y2 (by decide) (Or.inr (Or.inl rfl))).2⟩
        have a4 : 0 ≤ (da1G T X).1 4 ∧ (da1G T X).1 4 ≤ 99 := by
          unfold da1G upS
          dsimp only
          rw [up_ne (show (4 : Nat) ≠ 1 by decide)]
          exact nuG_bd (by decide)
        unfold daG da2G
        split
        · have d := dgG_w (T := T) (n := 1) (r := (da1G T X).2) (M := 9) (by decide)
          exact ⟨(a.1.up (by decide) (by omega)).up1 (by decide), vOK_dg 1 a.2⟩
        · split
          · exact nu_gO hT ⟨a.1.up1 (by decide), vOK_tk (by decide) a.2⟩ (by decide) (Or.inr (Or.inl rfl))
          · refine ⟨a.1, ?_⟩
            dsimp only
            split
            · exact flG_ok (vOK_tk (by decide) a.2)
            · exact vOK_tk (by decide) a.2
      · split
        · have a : gO T (pl1G T X) := ⟨(nu_gO hT y2 (by decide) (Or.inr (Or.inr rfl))).1.up1 (by decide), (nu_gO (k := 4) (n := 3) hT y2 (by decide) (Or.inr (Or.inr rfl))).2⟩
          have a4 : 0 ≤ (pl1G T X).1 4 ∧ (pl1G T X).1 4 ≤ 999 := by
            unfold pl1G upS
            dsimp only
            rw [up_ne (show (4 : Nat) ≠ 1 by decide)]
            exact nuG_bd (by decide)
          have v := a.2
          unfold vOK at v
          unfold plG pl2G
          split
          · have d := dgG_w (T := T) (n := 1) (r := (pl1G T X).2) (M := 9) (by decide)
            exact ⟨(((a.1.up1 (by decide)).up (by decide) (by omega)).up (by decide) (by omega)).up (by decide) (by omega), vOK_dg 1 a.2⟩
          · exact a
        · refine ⟨y2.1, ?_⟩
          dsimp only
          split
          · exact flG_ok y2.2
          · exact y2.2
  · exact y2
theorem tp1_gO {x : gsS} (h : gO T x) : gO T (tp1G T x) := by
  have b := paG_bd (T := T) x.2
  exact ⟨h.1.up (by decide) (by omega), vOK_paG h.2⟩
theorem tz1_gO {x : gsS} (hT : (T.length : Int) ≤ 120) (h : gO T x) (hb : 0 ≤ byI T x.2.1) : gO T (tz1G T x) := by
  refine nu_gO hT ⟨(h.1.up (by decide) ?_).up (by decide) (by decide), adG_ok h.2 hb⟩ (by decide) (Or.inr (Or.inl rfl))
  split <;> decide
theorem tr_gO {mo : Int} {x : gsS} (hT : (T.length : Int) ≤ 120) (h : gO T x) : gO T (trG T mo x) := by
  have two : (2 : Nat) = 1 ∨ (2 : Nat) = 2 ∨ (2 : Nat) = 3 := Or.inr (Or.inl rfl)
  have a0 : gO T (tm0G T x) := nu_gO hT ⟨(h.1.up (by decide) (by decide)).up (by decide) (by decide), h.2⟩ (by decide) two
  have mi : ∀ {y : gsS}, gO T y → gO T (tmiG T y) := fun hy => ⟨(nu_gO (k := 11) (n := 2) hT (x := (_, _)) hy (by decide) two).1.up (by decide) (by decide), (nu_gO (k := 11) (n := 2) hT (x := (_, _)) hy (by decide) two).2⟩
  have se : ∀ {y : gsS}, gO T y → gO T (tseG T y) := fun hy => ⟨(nu_gO (k := 13) (n := 2) hT (x := (_, _)) hy (by decide) two).1.up (by decide) (by decide), (nu_gO (k := 13) (n := 2) hT (x := (_, _)) hy (by decide) two).2⟩
  have a1 : gO T (tmsG T mo (tm0G T x)).2 := by
    unfold tmsG
    split
    · rename_i q
      show gO T (tm1G T (tmiG T (ad1 (tm0G T x))))
      have m := mi (ad_gO a0 (by rw [q.2]; decide))
      unfold tm1G
      split
      · exact se (y := (_, _)) ⟨m.1, vOK_tk (by decide) m.2⟩
      · exact ⟨m.1, vOK_tk (by decide) m.2⟩
    · split
      · show gO T (tm2G T (tmiG T (tm0G T x)))
        have m := mi a0
        unfold tm2G
        split
        · exact se m
        · exact m
      · exact a0
  have a2 : gO T (tpG T (tmsG T mo (tm0G T x)).2) := by
    unfold tpG
    split
    · rename_i q
      exact tp1_gO (ad_gO a1 (by rcases q.2 with e | e <;> omega))
    · exact a1
  unfold trG
  generalize (tmsG T mo (tm0G T x)).1 = wa
  generalize tpG T (tmsG T mo (tm0G T x)).2 = Y at a2
  unfold tzG
  split
  · exact ⟨a2.1.up (by decide) (by decide), vOK_tk (by decide) a2.2⟩
  · have a3 : gO T (Y.1, (tkG T 90 Y.2).2) := ⟨a2.1, vOK_tk (by decide) a2.2⟩
    unfold tz0G
    split
    · rename_i q
      have z := tz1_gO hT a3 (by rcases q.2 with e | e <;> omega)
      unfold tz2G
      split
      · rename_i r
        exact nu_gO hT (ad_gO z (by rw [r.2]; decide)) (by decide) two
      · split
        · exact nu_gO (x := (_, _)) hT z (by decide) two
        · exact z
    · exact a3
theorem rb_gO {r : uS} (hT : (T.length : Int) ≤ 120) (h : vOK T r) : gO T (rbG T r) := tr_gO hT (ex_gO (by decide) (dr_gO (x := (clG 3, r)) hT ⟨gB_cl (by decide), h⟩))
theorem rp_gO {r : uS} (hT : (T.length : Int) ≤ 120) (h : vOK T r) : gO T (rpG T r) := by
  have two : (2 : Nat) = 1 ∨ (2 : Nat) = 2 ∨ (2 : Nat) = 3 := Or.inr (Or.inl rfl)
  have v := h
  unfold vOK at v
  have y := dgG_w (T := T) (n := 4) (r := r) (M := 9999) (by decide)
  have a0 : gO T (rp1G T (clG 0, r)) := nu_gO hT (ex_gO (by decide) (nu_gO hT (ex_gO (by decide) ⟨(((gB_cl (fo := 0) (by decide)).up (by decide) (by dsimp only; omega)).up2 (by dsimp only; omega)).up1 (by decide), vOK_dg 4 h⟩) (by decide) two)) (by decide) two
  have sp : ∀ {q : uS}, vOK T q → vOK T (spG T q) := by
    intro q hq
    have s1 : vOK T (sp1G T q) := by unfold sp1G; split; exact flG_ok hq; exact hq
    unfold spG
    split
    · rename_i g
      refine adG_ok s1 ?_
      unfold sp1G at g ⊢
      split at g
      · exfalso
        have := flG_nn hq
        omega
      · rename_i c
        rw [if_neg c]
        apply Decidable.byContradiction
        intro z
        exact c ⟨g, by omega, by omega, by omega⟩
    · exact s1
  have a1 : gO T (rpS T (rp1G T (clG 0, r))) := ⟨a0.1, sp a0.2⟩
  have a2 : gO T (rp2G T (rpS T (rp1G T (clG 0, r)))) := nu_gO hT (ex_gO (by decide) (nu_gO hT (ex_gO (by decide) (nu_gO hT ⟨(a1.1.up (by decide) (by decide)).up (by decide) (by decide), a1.2⟩ (by decide) two)) (by decide) two)) (by decide) two
  have a3 : gO T (rp3G T (rp2G T (rpS T (rp1G T (clG 0, r))))) := by
    unfold rp3G
    split
    · exact tp1_gO (x := (_, _)) ⟨a2.1, vOK_tk (by decide) a2.2⟩
    · exact ⟨a2.1, vOK_tk (by decide) a2.2⟩
  unfold rpG
  generalize rp3G T (rp2G T (rpS T (rp1G T (clG 0, r)))) = Y at a3
  unfold rp4G
  split
  · rename_i q
    exact ⟨a3.1.up (by decide) (by decide), adG_ok a3.2 (by rcases q.2 with e | e <;> omega)⟩
  · split
    · rename_i q
      exact nu_gO hT (ex_gO (by decide) (tz1_gO hT a3 (by rcases q.2 with e | e <;> omega))) (by decide) two
    · exact ⟨a3.1, flG_ok a3.2⟩
end GB

/-! fields and arrays -/
def zt_b (t : zt_T) : Int × Int := match t.1 with
  | 0 => t.2
  | 1 => t.2
  | _ => (0, -1)
/-- a new unknown for a value of a type -/
theorem zt_new {ro : Nat → Option Nat} {x : Value} {t : zt_T} (h : zt_ok ro x t) (h2 : t.1 ≠ 2) (h3 : t.1 ≠ 3) : ∃ z : Int, ((zt_b t).2 < (zt_b t).1 ∨ ((zt_b t).1 ≤ z ∧ z ≤ (zt_b t).2)) ∧ ∀ (v : Nat → Int) (f : zl_F), zl_at v f = z → zv_ok ro v x (t.1, f) := by
  obtain ⟨k, lo, hi⟩ := t
  match k with
  | 0 =>
    obtain ⟨y, h4, h5, h6⟩ := h
    exact ⟨y.toInt, Or.inr ⟨h5, h6⟩, fun v f e => ⟨y, h4, e.symm⟩⟩
  | 1 =>
    obtain ⟨y, h4, h5, h6⟩ := h
    exact ⟨y.toInt, Or.inr ⟨h5, h6⟩, fun v f e => ⟨y, h4, e.symm⟩⟩
  | 2 => exact absurd rfl h2
  | 3 => exact absurd rfl h3
  | k + 4 =>
    rcases h with ⟨h4, h5⟩ | ⟨a, h4, h5⟩
    · exact ⟨-1, Or.inl (show (-1 : Int) < 0 by decide), fun v f e => Or.inl ⟨h4, h5, e⟩⟩
    · exact ⟨(a : Int), Or.inl (show (-1 : Int) < 0 by decide), fun v f e => Or.inr ⟨a, h4, h5, e.symm⟩⟩
/-- push a value of type t, all that is known of it -/
def zx_ft (t : zt_T) (q : zs_S) (S : List zv_V) : zs_S := zq_S (zs_new q (zt_b t).1 (zt_b t).2) ((t.1, zl_id q.1.length) :: S)
theorem zx_ft_wf {q : zs_S} {t : zt_T} {S : List zv_V} (hw : zs_wf q) (hS : ∀ z ∈ S, zv_wf q.1.length z) : zs_wf (zx_ft t q S) := by
  have e : (zs_new q (zt_b t).1 (zt_b t).2).1.length = q.1.length + 1 := by simp [zs_new]
  refine zq_S_wf (zs_new_wf hw) (fun z hz => ?_)
  rcases List.mem_cons.mp hz with h | h
  · rw [h]; exact zl_id_wf (by omega)
  · exact zl_wf.mono (hS z h) (by omega)
theorem zx_ft_ok {D : va_G} {RT : List zr_R} {ro : Nat → Option Nat} {Ga : List Int} {nL : Nat} {q : zs_S} {t : zt_T} {S : List zv_V} {v : Nat → Int} {H : Heap} {ls : Array Slot} {st st' : List Value} {x : Value} (hw : zs_wf q) (hSw : ∀ z ∈ S, zv_wf q.1.length z) (h : zs_ok D RT ro Ga nL q v H ls st) (hS : zs_st ro v st' S) (hx : zt_ok ro x t) (h2 : t.1 ≠ 2) (h3 : t.1 ≠ 3) :
    ∃ z : Int, zs_ok D RT ro Ga nL (zx_ft t q S) (zl_up v q.1.length z) H ls (x :: st') := by
  obtain ⟨z, hz, hv⟩ := zt_new hx h2 h3
  exact ⟨z, zq_S_ok (zs_new_ok hw h hz) ⟨hv _ _ (by rw [zl_id_at]; simp [zl_up]), zs_st.up hSw hS⟩⟩
/-- the unknown of a form that is one alone -/
def zx_un (f : zl_F) : Option Nat := match f with
  | ([(i, .ofNat 1)], .ofNat 0) => some i
  | _ => none
theorem zx_un_at {f : zl_F} {i : Nat} (h : zx_un f = some i) (v : Nat → Int) : zl_at v f = v i := by
  unfold zx_un at h
  split at h
  · cases h
    simp [zl_at, zl_ev]
  · cases h
def zf_get (F : List ((Nat × Nat × Nat) × zv_V)) (i r k : Nat) : Option zv_V := match F with
  | [] => none
  | e :: t => match Nat.beq e.1.1 i && Nat.beq e.1.2.1 r && Nat.beq e.1.2.2 k with
    | true => some e.2
    | false => zf_get t i r k
theorem zf_get_mem {F : List ((Nat × Nat × Nat) × zv_V)} {i r k : Nat} {z : zv_V} (h : zf_get F i r k = some z) : ((i, r, k), z) ∈ F := by
  induction F with
  | nil => cases h
  | cons e t ih =>
    unfold zf_get at h
    split at h
    · rename_i he
      simp only [Bool.and_eq_true] at he
      obtain ⟨⟨h1, h2⟩, h3⟩ := he
      obtain ⟨⟨a, b, c⟩, d⟩ := e
      cases h
      have h1 := Nat.eq_of_beq_eq_true h1
      have h2 := Nat.eq_of_beq_eq_true h2
      have h3 := Nat.eq_of_beq_eq_true h3
      dsimp only at h1 h2 h3
      subst h1 h2 h3
      exact List.mem_cons_self
    · exact List.mem_cons_of_mem _ (ih h)
def zq_F (q : zs_S) (F : List ((Nat × Nat × Nat) × zv_V)) : zs_S := (q.1, q.2.1, q.2.2.1, q.2.2.2.1, F, q.2.2.2.2.2)
/-- getfield: (role, field) r k of type t -/
def zx_gf (r k : Nat) (t : zt_T) (q : zs_S) (i : Nat) (S : List zv_V) : zs_S := match zf_get q.2.2.2.2.1 i r k with
  | some z => zq_S q (z :: S)
  | none => let q' := zx_ft t q S
    zq_F q' (((i, r, k), (t.1, zl_id q.1.length)) :: q'.2.2.2.2.1)
section ZH
variable {D : va_G} {cA : Nat → ClassId} {RT : List zr_R} {ro : Nat → Option Nat} {sz : Nat} {H0 : Heap} {Ga : List Int} {nL : Nat} {G : zg_G} {pc pc' : Nat} {q : zs_S}
theorem zh_obj {H : Heap} {locs : List Loc} {a r ci n : Nat} {fs : List zt_T} (hh : zh_ok D cA RT ro sz H0 H locs) (ha : ro a = some r) (hr : RT[r]? = some (0, ci, n, fs)) :
    sz ≤ a ∧ ∃ cell : Cell, H[a]? = some cell ∧ cell.cls = D.1 ci ∧ cell.vm = .none ∧ ∀ (k : Nat) (t : zt_T), fs[k]? = some t → ∃ x : Value, cell.slots[D.2 ci k]? = some x ∧ zt_ok ro x t := by
  obtain ⟨e, h2, h1, h3⟩ := hh.2.2.2 a r ha
  cases h2.symm.trans hr
  exact ⟨h1.resolve_left (show ¬ (0 : Nat) = 2 by decide), h3⟩
theorem zh_arr {H : Heap} {locs : List Loc} {a r ti n : Nat} {t : zt_T} (hh : zh_ok D cA RT ro sz H0 H locs) (ha : ro a = some r) (hr : RT[r]? = some (1, ti, n, [t])) :
    sz ≤ a ∧ ∃ z : Nat → Value, H[a]? = some (arrV (cA ti) n z) ∧ ∀ j : Nat, j < n → zt_ok ro (z j) t := by
  obtain ⟨e, h2, h1, h3⟩ := hh.2.2.2 a r ha
  cases h2.symm.trans hr
  obtain ⟨z, h4, h5⟩ := h3
  exact ⟨h1.resolve_left (show ¬ (1 : Nat) = 2 by decide), z, h4, h5 t rfl⟩
theorem zh_arrR {H : Heap} {locs : List Loc} {a r kd ti n : Nat} {t : zt_T} (hh : zh_ok D cA RT ro sz H0 H locs) (ha : ro a = some r) (hr : RT[r]? = some (kd + 1, ti, n, [t])) :
    ∃ (cell : Cell) (z : Nat → Value), H[a]? = some cell ∧ zh_ca cA ti n cell ∧ ∀ j : Nat, j < n → cell.slots[j]? = some (z j) ∧ zt_ok ro (z j) t := by
  obtain ⟨e, h2, h1, h3⟩ := hh.2.2.2 a r ha
  cases h2.symm.trans hr
  have key : (∃ z : Nat → Value, H[a]? = some (arrV (cA ti) n z) ∧ ∀ (t' : zt_T), [t] = [t'] → ∀ j : Nat, j < n → zt_ok ro (z j) t') → ∃ (cell : Cell) (z : Nat → Value), H[a]? = some cell ∧ zh_ca cA ti n cell ∧ ∀ j : Nat, j < n → cell.slots[j]? = some (z j) ∧ zt_ok ro (z j) t := by
    intro h
    obtain ⟨z, h4, h5⟩ := h
    exact ⟨_, z, h4, ⟨⟨0, by decide, rfl⟩, (fun h => by cases h), (fun k h => by cases h), (by rw [arrV_size]; exact Nat.le_refl _), (by rw [arrV_size]; try rfl)⟩, fun j hj => ⟨arrV_read _ _ hj, h5 t rfl j hj⟩⟩
  match kd, h3 with
  | 0, h3 => exact key h3
  | 1, h3 =>
    obtain ⟨cell, z, h4, h5, h6⟩ := h3
    exact ⟨cell, z, h4, h5, h6 t rfl⟩
  | kd + 2, h3 => exact key h3
theorem zi_getf {r k ci n i : Nat} {fs : List zt_T} {t : zt_T} {f : zl_F} {S : List zv_V} (hS : q.2.2.2.1 = (4 + 2 * r, f) :: S) (hi : zx_un f = some i) (hr : RT[r]? = some (0, ci, n, fs)) (hk : fs[k]? = some t) (h2 : t.1 ≠ 2) (h3 : t.1 ≠ 3)
    (row : ∀ H locs ls st a x (cell : Cell), H[a]? = some cell → cell.cls = D.1 ci → cell.vm = .none → cell.slots[D.2 ci k]? = some x → G pc' H locs ls (x :: st) → G pc H locs ls (.ref a :: st))
    (K : zw D cA RT ro sz H0 Ga nL G pc' (zx_gf r k t q i S)) : zw D cA RT ro sz H0 Ga nL G pc q := by
  intro hw v H locs ls st h hh
  have hst := h.2.2.2.1
  rw [hS] at hst
  match st, hst with
  | x0 :: st, hst =>
    have wS : ∀ z ∈ S, zv_wf q.1.length z := fun z hz => hw.2.2.1 z (by rw [hS]; exact List.mem_cons_of_mem _ hz)
    have wo := hw.2.2.1 (4 + 2 * r, f) (by rw [hS]; exact List.mem_cons_self)
    obtain ⟨a, hx0, ha, hav⟩ : zv_ref ro v f r x0 := by
      have h4 := hst.1
      rw [show 4 + 2 * r = 2 * r + 4 by omega] at h4
      rcases h4 with ⟨h5, -⟩ | h5
      · omega
      · rw [show 2 * r / 2 = r by omega] at h5; exact h5
    subst hx0
    rw [zx_un_at hi] at hav
    obtain ⟨-, cell, c1, c2, c3, c4⟩ := zh_obj hh ha hr
    obtain ⟨x, c5, c6⟩ := c4 k t hk
    have hzf : zh_f D H a ci k = x := by simp [zh_f, c1, c5]
    refine row _ _ _ _ a x cell c1 c2 c3 c5 ?_
    unfold zx_gf at K
    split at K
    · rename_i z hz
      have hm := zf_get_mem hz
      obtain ⟨a', ci', n', fs', e1, e2, e3, e4, e5⟩ := h.2.2.2.2.1 _ hm
      dsimp only at e1 e2 e3 e4 e5
      have ea : a' = a := by
        have : (a' : Int) = (a : Int) := by rw [e1, hav]
        omega
      subst ea
      cases e3.symm.trans hr
      rw [hzf] at e5
      refine K (zq_S_wf hw (fun y hy => ?_)) v H locs ls _ (zq_S_ok h ⟨e5, hst.2⟩) hh
      rcases List.mem_cons.mp hy with e | e
      · rw [e]; exact (hw.2.2.2.1 _ hm).2
      · exact wS y e
    · have iw : i < q.1.length := by
        unfold zx_un at hi
        split at hi
        · cases hi
          exact wo _ List.mem_cons_self
        · cases hi
      have w1 := zx_ft_wf (t := t) hw wS
      have el : (zx_ft t q S).1.length = q.1.length + 1 := by simp [zx_ft, zq_S, zs_new]
      obtain ⟨z, hz, hv⟩ := zt_new c6 h2 h3
      have hok : zs_ok D RT ro Ga nL (zx_ft t q S) (zl_up v q.1.length z) H ls (x :: st) := zq_S_ok (zs_new_ok hw h hz) ⟨hv _ _ (by rw [zl_id_at]; simp [zl_up]), zs_st.up wS hst.2⟩
      refine K ⟨w1.1, w1.2.1, w1.2.2.1, fun e he => ?_, w1.2.2.2.2⟩ (zl_up v q.1.length z) H locs ls _ ⟨hok.1, hok.2.1, hok.2.2.1, hok.2.2.2.1, fun e he => ?_, hok.2.2.2.2.2⟩ hh
      · show e.1.1 < (zx_ft t q S).1.length ∧ zv_wf (zx_ft t q S).1.length e.2
        rcases List.mem_cons.mp he with e' | e'
        · rw [e', el]; exact ⟨by dsimp only; omega, zl_id_wf (by omega)⟩
        · exact w1.2.2.2.1 e e'
      · rcases List.mem_cons.mp he with e' | e'
        · rw [e']
          refine ⟨a, ci, n, fs, ?_, ha, hr, ?_, ?_⟩
          · dsimp only
            rw [show zl_up v q.1.length z i = v i by simp [zl_up, Nat.ne_of_lt iw]]; exact hav
          · exact (List.getElem?_eq_some_iff.mp hk).1
          · dsimp only
            rw [hzf]; exact hv _ _ (by rw [zl_id_at]; simp [zl_up])
        · exact hok.2.2.2.2.1 e e'
/-- z is of type t, by what the state knows -/
def zx_ty (q : zs_S) (z : zv_V) (t : zt_T) : Bool := match t.1 with
  | 0 => Nat.beq z.1 0 && zx_in q t.2.1 t.2.2 z.2
  | 1 => Nat.beq z.1 1 && zx_in q t.2.1 t.2.2 z.2
  | 2 => false
  | 3 => false
  | k + 4 => Nat.beq z.1 (k + 4) || (Nat.beq (k % 2) 1 && (Nat.beq z.1 2 || Nat.beq (z.1 + 1) (k + 4)))
theorem zx_ty_ok {v : Nat → Int} {H : Heap} {ls : Array Slot} {st : List Value} {z : zv_V} {t : zt_T} {x : Value} (h : zs_ok D RT ro Ga nL q v H ls st) (hz : zv_ok ro v x z) (ht : zx_ty q z t = true) : zt_ok ro x t := by
  obtain ⟨k, lo, hi⟩ := t
  obtain ⟨kz, f⟩ := z
  match k with
  | 0 =>
    simp only [zx_ty, Bool.and_eq_true] at ht
    have e := Nat.eq_of_beq_eq_true ht.1
    subst e
    obtain ⟨y, h1, h2⟩ := hz
    have h3 := zx_in_ok h ht.2
    dsimp only at h2 h3
    exact ⟨y, h1, by dsimp only; omega, by dsimp only; omega⟩
  | 1 =>
    simp only [zx_ty, Bool.and_eq_true] at ht
    have e := Nat.eq_of_beq_eq_true ht.1
    subst e
    obtain ⟨y, h1, h2⟩ := hz
    have h3 := zx_in_ok h ht.2
    dsimp only at h2 h3
    exact ⟨y, h1, by dsimp only; omega, by dsimp only; omega⟩
  | 2 => cases ht
  | 3 => cases ht
  | k + 4 =>
    simp only [zx_ty, Bool.or_eq_true, Bool.and_eq_true] at ht
    rcases ht with e | ⟨e1, e | e⟩
    · have e := Nat.eq_of_beq_eq_true e
      subst e
      rcases hz with ⟨h1, h2, -⟩ | ⟨a, h1, h2, -⟩
      · exact Or.inl ⟨h1, h2⟩
      · exact Or.inr ⟨a, h1, h2⟩
    · have e := Nat.eq_of_beq_eq_true e
      have e1 := Nat.eq_of_beq_eq_true e1
      subst e
      exact Or.inl ⟨e1, hz.1⟩
    · have e := Nat.eq_of_beq_eq_true e
      have e1 := Nat.eq_of_beq_eq_true e1
      obtain ⟨j, rfl⟩ : ∃ j, kz = j + 4 := ⟨kz - 4, by omega⟩
      have : k = j + 1 := by omega
      subst this
      rcases hz with ⟨h1, h2, -⟩ | ⟨a, h1, h2, -⟩
      · omega
      · exact Or.inr ⟨a, h1, by rw [show (j + 1) / 2 = j / 2 by omega]; exact h2⟩
/-- the slots of an object's fields are apart -/
def zD_ok (D : va_G) (RT : List zr_R) : Prop := ∀ (r ci n : Nat) (fs : List zt_T), RT[r]? = some (0, ci, n, fs) → ∀ j k : Nat, j < fs.length → k < fs.length → D.2 ci j = D.2 ci k → j = k
/-- putfield -/
def zx_pf (r k : Nat) (q : zs_S) (i : Nat) (z : zv_V) (S : List zv_V) : zs_S :=
  (q.1, q.2.1, q.2.2.1, S, ((i, r, k), z) :: q.2.2.2.2.1.filter (fun e => !(Nat.beq e.1.2.1 r && Nat.beq e.1.2.2 k)), q.2.2.2.2.2)
theorem zi_putf {r k ci n i : Nat} {fs : List zt_T} {t : zt_T} {f : zl_F} {z : zv_V} {S : List zv_V} (hS : q.2.2.2.1 = z :: (4 + 2 * r, f) :: S) (hi : zx_un f = some i) (hr : RT[r]? = some (0, ci, n, fs)) (hk : fs[k]? = some t) (hD : zD_ok D RT) (ht : zx_ty q z t = true)
    (row : ∀ H locs ls st a x (cell : Cell) y, ro a = some r → zt_ok ro x t → H[a]? = some cell → cell.cls = D.1 ci → cell.vm = .none → cell.slots[D.2 ci k]? = some y → (∀ H' : Heap, H'[a]? = some (cell.setSlot (D.2 ci k) x) → H'.size = H.size → (∀ q, q ≠ a → H'[q]? = H[q]?) → G pc' H' (locs ++ [⟨a, D.2 ci k⟩]) ls st) → G pc H locs ls (x :: .ref a :: st))
    (K : zw D cA RT ro sz H0 Ga nL G pc' (zx_pf r k q i z S)) : zw D cA RT ro sz H0 Ga nL G pc q := by
  intro hw v H locs ls st h hh
  have hst := h.2.2.2.1
  rw [hS] at hst
  match st, hst with
  | x :: x0 :: st, hst =>
    have wS : ∀ z ∈ S, zv_wf q.1.length z := fun z hz => hw.2.2.1 z (by rw [hS]; exact List.mem_cons_of_mem _ (List.mem_cons_of_mem _ hz))
    have wo := hw.2.2.1 (4 + 2 * r, f) (by rw [hS]; exact List.mem_cons_of_mem _ List.mem_cons_self)
    have wz := hw.2.2.1 z (by rw [hS]; exact List.mem_cons_self)
    obtain ⟨a, hx0, ha, hav⟩ : zv_ref ro v f r x0 := by
      have h4 := hst.2.1
      rw [show 4 + 2 * r = 2 * r + 4 by omega] at h4
      rcases h4 with ⟨h5, -⟩ | h5
      · omega
      · rw [show 2 * r / 2 = r by omega] at h5; exact h5
    subst hx0
    rw [zx_un_at hi] at hav
    have hx := zx_ty_ok h hst.1 ht
    obtain ⟨hsa, cell, c1, c2, c3, c4⟩ := zh_obj hh ha hr
    obtain ⟨y, c5, c6⟩ := c4 k t hk
    have hkl : k < fs.length := (List.getElem?_eq_some_iff.mp hk).1
    have hsl : D.2 ci k < cell.slots.size := (Array.getElem?_eq_some_iff.mp c5).1
    have iw : i < q.1.length := by
      unfold zx_un at hi
      split at hi
      · cases hi
        exact wo _ List.mem_cons_self
      · cases hi
    refine row _ _ _ _ a x cell y ha hx c1 c2 c3 c5 (fun H' e1 e2 e3 => K ?_ v H' _ ls st ⟨h.1, h.2.1, h.2.2.1, hst.2.2, fun e he => ?_, h.2.2.2.2.2⟩ ⟨?_, ?_, ?_, ?_⟩)
    · refine ⟨hw.1, hw.2.1, wS, fun e he => ?_, hw.2.2.2.2⟩
      rcases List.mem_cons.mp he with e' | e'
      · rw [e']; exact ⟨iw, wz⟩
      · exact hw.2.2.2.1 e (List.mem_filter.mp e').1
    · have hself : (cell.setSlot (D.2 ci k) x).slots[D.2 ci k]? = some x := by simp [Cell.setSlot, hsl]
      rcases List.mem_cons.mp he with e' | e'
      · rw [e']
        refine ⟨a, ci, n, fs, hav, ha, hr, hkl, ?_⟩
        rw [show zh_f D H' a ci k = x by simp only [zh_f, e1, hself]; rfl]
        exact hst.1
      · obtain ⟨m1, m2⟩ := List.mem_filter.mp e'
        obtain ⟨a', ci', n', fs', g1, g2, g3, g4, g5⟩ := h.2.2.2.2.1 e m1
        refine ⟨a', ci', n', fs', g1, g2, g3, g4, ?_⟩
        have : zh_f D H' a' ci' e.1.2.2 = zh_f D H a' ci' e.1.2.2 := by
          by_cases ea : a' = a
          · subst ea
            have er : e.1.2.1 = r := Option.some.inj (g2.symm.trans ha)
            rw [er] at g3
            cases g3.symm.trans hr
            have hne : D.2 ci k ≠ D.2 ci e.1.2.2 := fun q => by
              have := hD r ci n fs hr k e.1.2.2 hkl g4 q
              rw [er, ← this, Nat.beq_refl, Nat.beq_refl] at m2
              cases m2
            simp only [zh_f, e1, c1, slot_ne _ _ hne]
          · simp only [zh_f, e3 a' ea]
        rw [this]; exact g5
    · rw [e2]; exact hh.1
    · intro j hj
      rw [e3 j (Nat.ne_of_lt (Nat.lt_of_lt_of_le hj hsa))]; exact hh.2.1 j hj
    · intro l hl
      rcases List.mem_append.mp hl with g | g
      · exact hh.2.2.1 l g
      · rw [List.mem_singleton.mp g]; exact hsa
    · intro b rb hb
      obtain ⟨ee, g2, g1, g3⟩ := hh.2.2.2 b rb hb
      refine ⟨ee, g2, g1, ?_⟩
      by_cases eb : b = a
      · subst eb
        cases hb.symm.trans ha
        cases g2.symm.trans hr
        refine ⟨_, e1, c2, c3, fun j tj hj => ?_⟩
        by_cases ej : j = k
        · subst ej
          cases hj.symm.trans hk
          exact ⟨x, by simp [Cell.setSlot, hsl], hx⟩
        · obtain ⟨w, w1, w2⟩ := c4 j tj hj
          have hne : D.2 ci k ≠ D.2 ci j := fun q => ej (hD r ci n fs hr k j hkl (List.getElem?_eq_some_iff.mp hj).1 q).symm
          exact ⟨w, by rw [slot_ne _ _ hne]; exact w1, w2⟩
      · unfold zh_cell at g3 ⊢
        rw [e3 b eb]
        exact g3
end ZH
